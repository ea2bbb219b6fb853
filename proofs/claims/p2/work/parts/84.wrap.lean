/-! ===== the law: its wrappers' calls ===== -/
noncomputable def cwk (b e : Nat) : Nat := Nat.mod (Nat.div (Nat.div b 256) (4 ^ e)) 4
theorem at_callW {X : scr} {m i a b k : Nat} {ls st : List (sx_V Int)} {M : mem} {Q : Nat → sx_V Int → mem → Prop} {as : List (sx_V Int)} {r : List (sx_V Int)} {Qc : Nat → sx_V Int → mem → Prop} (hd : cdx m i = (39, (a, b))) (hp : sx_pop (Nat.mod b 16) [] st = some (as, vr k :: r)) (hk : ly_c k = Nat.mod (Nat.div b 16) 16) (hs : (Nat.ble (Nat.mod (Nat.div b 16) 16) 7 && (Nat.ble (sx_sw r) 8 && sx_n2 as)) = true)
    (C : At X 0 a 0 (vr k :: as) [] M Qc) (K0 : ∀ v M', Qc 0 v M' → At X 1 m (i + 1) ls r M' Q) (K1 : ∀ v M', Qc 1 v M' → At X 1 m (i + 1) ls (v :: r) M' Q) (K2 : ∀ e v M', Qc (e + 2) v M' → (Nat.beq (cwk b e) 0 || Nat.ble 3 e) = false ∧ Q 1 (some (.inl ((oI X).1 (cwk b e)))) M') : At X 1 m i ls st M Q := fun lx h hl hM => by
  obtain ⟨x, e1, e39, rfl, rfl⟩ := cdx_ok hd (by decide)
  have hn : sx_n2 (vr k :: as) = true := (sx_a2 (sx_a2 hs).2).2
  obtain ⟨n0, out, c1, M1, c2, c3, c4, c5⟩ := C (sx_args 0 (vr k :: as)) h (lsR_entry hn) hM
  obtain ⟨⟨t, v⟩, h'⟩ := out
  have hcall : ∀ n, n0 ≤ n → sx_ca sx_cd (sx_run sx_cd (oI X) n) (sx_xa x) (vr k :: as) h = some ((t, v), h') := c1
  have h1 : ∀ n, sx_run sx_cd (oI X) (n + 1) (sx_cd m) ((sx_cd m).drop i) lx st h = sx_bkW (oI X) (sx_run sx_cd (oI X) n (sx_cd m)) (sx_xb x) ((sx_cd m).drop (i + 1)) lx r (sx_ca sx_cd (sx_run sx_cd (oI X) n) (sx_xa x) (vr k :: as) h) := fun n => by
    rw [e1, run_row, e39]
    show sh_callW (oI X) (sx_ca sx_cd (sx_run sx_cd (oI X) n)) _ (sx_xa x) (sx_xb x) _ lx st h = _
    unfold sh_callW
    have e2 := hM.1 k (by rw [hk]; exact Nat.le_of_ble_eq_true (sx_a2 hs).1)
    rw [hk] at e2
    simp only [hp, e2, Nat.beq_refl, (sx_a2 hs).2, Bool.and_self, cond_true]
  match t, hcall, c2, c3, c4, c5 with
  | 0, hcall, c2, c3, c4, c5 =>
    obtain ⟨n1, out, k1, M2, k2, k3, k4, k5⟩ := K0 v M1 c5 lx h' hl c2
    refine ⟨max n0 n1 + 1, out, fun n hn => ?_, M2, k2, ?_, ?_, k5⟩
    · obtain ⟨n, rfl⟩ : ∃ n', n = n' + 1 := ⟨n - 1, by omega⟩
      rw [h1, hcall n (by omega)]
      exact k1 n (by omega)
    · have c3' : h'.2.2.1 ≤ h.2.2.1 + 0 := c3
      omega
    · have c4' : h'.2.2.2.1 ≤ h.2.2.2.1 + 0 := c4
      omega
  | 1, hcall, c2, c3, c4, c5 =>
    obtain ⟨n1, out, k1, M2, k2, k3, k4, k5⟩ := K1 v M1 c5 lx h' hl c2
    refine ⟨max n0 n1 + 1, out, fun n hn => ?_, M2, k2, ?_, ?_, k5⟩
    · obtain ⟨n, rfl⟩ : ∃ n', n = n' + 1 := ⟨n - 1, by omega⟩
      rw [h1, hcall n (by omega)]
      exact k1 n (by omega)
    · have c3' : h'.2.2.1 ≤ h.2.2.1 + 0 := c3
      omega
    · have c4' : h'.2.2.2.1 ≤ h.2.2.2.1 + 0 := c4
      omega
  | e + 2, hcall, c2, c3, c4, c5 =>
    obtain ⟨q1, q2⟩ := K2 e v M1 c5
    refine ⟨n0 + 1, ((1, some (.inl ((oI X).1 (cwk (sx_xb x) e)))), h'), fun n hn => ?_, M1, c2, ?_, ?_, q2⟩
    · obtain ⟨n, rfl⟩ : ∃ n', n = n' + 1 := ⟨n - 1, by omega⟩
      rw [h1, hcall n (by omega)]
      show cond (Nat.beq (cwk (sx_xb x) e) 0 || Nat.ble 3 e) none _ = _
      rw [q1]
      rfl
    · have c3' : h'.2.2.1 ≤ h.2.2.1 + (0 + 1) := c3
      show h'.2.2.1 ≤ h.2.2.1 + (1 + 0)
      omega
    · have c4' : h'.2.2.2.1 ≤ h.2.2.2.1 + 6 * (0 + 1) := c4
      show h'.2.2.2.1 ≤ h.2.2.2.1 + 6 * (1 + 0)
      omega
theorem cwk_R (b e : Nat) : inR (ii_k (cwk b e)) := by
  have h4 : cwk b e < 4 := Nat.mod_lt _ (by decide)
  unfold ii_k
  rw [Nat.ble_eq_true_of_le (show cwk b e ≤ 2147483647 by omega)]
  show inR ((cwk b e : Nat) : Int)
  exact ⟨by omega, by omega⟩
section WR
variable {X : scr} {m i a b k : Nat} {ls st : List (sx_V Int)} {M : mem}
theorem cwk_ok {S : List Nat} (hS : (S.all (fun e => !(Nat.beq (cwk b e) 0 || Nat.ble 3 e))) = true) {e : Nat} (he : e ∈ S) : (Nat.beq (cwk b e) 0 || Nat.ble 3 e) = false := by
  have h := List.all_eq_true.mp hS e he
  simpa using h
abbrev wQ (P : mem → Prop) : Nat → sx_V Int → mem → Prop := qI (fun _ M' => ∃ M1, P M1 ∧ fr (fun q => q = 883) M1 M')
theorem at_callWIp {P : mem → Prop} {Q : Nat → sx_V Int → mem → Prop} {as r : List (sx_V Int)} {S : List Nat} (hd : cdx m i = (39, (a, b))) (hp : sx_pop (Nat.mod b 16) [] st = some (as, vr k :: r)) (hk : ly_c k = Nat.mod (Nat.div b 16) 16) (hs : (Nat.ble (Nat.mod (Nat.div b 16) 16) 7 && (Nat.ble (sx_sw r) 8 && sx_n2 as)) = true)
    (hS : (S.all (fun e => !(Nat.beq (cwk b e) 0 || Nat.ble 3 e))) = true) (C : At X 0 a 0 (vr k :: as) [] M (qT (qI (fun _ M' => P M')) (fun e M' => e ∈ S ∧ P M'))) (K2 : ∀ (x : Int) (M' : mem), inR x → P M' → Q 1 (vi x) M') (K : ∀ (x : Int) (M' : mem), inR x → P M' → At X 1 m (i + 1) ls (vi x :: r) M' Q) : At X 1 m i ls st M Q := by
  refine at_callW hd hp hk hs C (fun v M' h => ?_) (fun v M' h => ?_) (fun e v M' h => ?_)
  · rcases h with h | ⟨e, h, -⟩
    · exact absurd h.1 (by decide)
    · omega
  · rcases h with ⟨-, x, rfl, hr, hx⟩ | ⟨e, h, -⟩
    · exact K x M' hr hx
    · omega
  · rcases h with ⟨h, -⟩ | ⟨e', h, -, h2⟩
    · omega
    · obtain rfl : e = e' := by omega
      exact ⟨cwk_ok hS h2.1, K2 _ M' (cwk_R b e) h2.2⟩
theorem at_callWVr {P : mem → Prop} {E : Nat → mem → Prop} {Q : Nat → sx_V Int → mem → Prop} {as r : List (sx_V Int)} {S : List Nat} (hd : cdx m i = (39, (a, b))) (hp : sx_pop (Nat.mod b 16) [] st = some (as, vr k :: r)) (hk : ly_c k = Nat.mod (Nat.div b 16) 16) (hs : (Nat.ble (Nat.mod (Nat.div b 16) 16) 7 && (Nat.ble (sx_sw r) 8 && sx_n2 as)) = true)
    (hS : (S.all (fun e => !(Nat.beq (cwk b e) 0 || Nat.ble 3 e) && decide (ii_k (cwk b e) = (e : Int) + 1))) = true) (C : At X 0 a 0 (vr k :: as) [] M (qT (qV (fun M' => P M')) (fun e M' => e ∈ S ∧ E e M'))) (K2 : ∀ (e : Nat) (M' : mem), inR ((e : Int) + 1) → E e M' → Q 1 (vi ((e : Int) + 1)) M') (K : ∀ (M' : mem), P M' → At X 1 m (i + 1) ls r M' Q) : At X 1 m i ls st M Q := by
  refine at_callW hd hp hk hs C (fun v M' h => ?_) (fun v M' h => ?_) (fun e v M' h => ?_)
  · rcases h with ⟨-, -, hx⟩ | ⟨e, h, -⟩
    · exact K M' hx
    · omega
  · rcases h with ⟨h, -⟩ | ⟨e, h, -⟩
    · exact absurd h (by decide)
    · omega
  · rcases h with ⟨h, -⟩ | ⟨e', h, -, h2⟩
    · omega
    · obtain rfl : e = e' := by omega
      have h9 := sx_a2 (List.all_eq_true.mp hS e h2.1)
      have h8 : (Nat.beq (cwk b e) 0 || Nat.ble 3 e) = false := by simpa using h9.1
      have h7 : ii_k (cwk b e) = (e : Int) + 1 := of_decide_eq_true h9.2
      refine ⟨h8, ?_⟩
      have h6 := cwk_R b e
      show Q 1 (vi (ii_k (cwk b e))) M'
      rw [h7] at h6 ⊢
      exact K2 e M' h6 h2.2
end WR

set_option maxRecDepth 100000 in
set_option maxHeartbeats 4000000 in
theorem m_thrown {X : scr} {M : mem}  : At X 0 91 0 [vr 856] [] M (qI (fun x M' => M' = M ∧ x = M 856 31)) := by
  refine at_aload dx_91_0 rfl ?_
  refine at_getI 31 dx_91_1 lc_856 rfl rfl (fun r1 => ?_)
  refine at_iretI dx_91_2 r1 ?_
  exact ⟨rfl, rfl⟩

set_option maxRecDepth 100000 in
set_option maxHeartbeats 4000000 in
theorem l_type {X : scr} {M : mem} {x p l : Int} (rx : inR x) (rp : inR p) (rl : inR l) (hR : R2 M M) : At X 1 161 0 [vr 0, vi x, vi p, vi l, vr 883] [] M (wQ (OC x (csType p l) M)) := by
  have hM : ∀ (x' : Int) (M' : mem), inR x' → (OC x (csType p l) M) M' → wQ (OC x (csType p l) M) 1 (vi x') M' := fun x' M' hx h => ⟨rfl, x', rfl, hx, M', h, fr_rf⟩
  refine at_aload dx_161_0 rfl ?_
  refine at_const (x := 0) dx_161_1 rfl ?_
  refine at_aload dx_161_2 rfl ?_
  refine at_iload dx_161_3 rfl ?_
  refine at_iload dx_161_4 rfl ?_
  refine at_iload dx_161_5 rfl ?_
  refine at_callWIp (P := OC x (csType p l) M) dx_161_6 rfl lc_0 rfl (by decide +kernel) (x_type rx rp rl hR.1) hM ?_
  intro x9 M9 rx9 h9
  refine at_i2l dx_161_7 ?_
  refine at_astL dx_161_8 lc_883 ln_883 (by decide) (by decide) rx9 ?_
  refine at_goto dx_161_9 ?_
  refine at_const (x := 0) dx_161_16 rfl ?_
  refine at_iretI dx_161_17 (by decide) ?_
  exact ⟨_, h9, fr_um rfl⟩

set_option maxRecDepth 100000 in
set_option maxHeartbeats 4000000 in
theorem l_erase {X : scr} {M : mem} {x f t : Int} (rx : inR x) (rf : inR f) (rt : inR t) (hR : R2 M M) : At X 1 162 0 [vr 0, vi x, vi f, vi t, vr 883] [] M (wQ (OC x (csErase f t) M)) := by
  have hM : ∀ (x' : Int) (M' : mem), inR x' → (OC x (csErase f t) M) M' → wQ (OC x (csErase f t) M) 1 (vi x') M' := fun x' M' hx h => ⟨rfl, x', rfl, hx, M', h, fr_rf⟩
  refine at_aload dx_162_0 rfl ?_
  refine at_const (x := 0) dx_162_1 rfl ?_
  refine at_aload dx_162_2 rfl ?_
  refine at_iload dx_162_3 rfl ?_
  refine at_iload dx_162_4 rfl ?_
  refine at_iload dx_162_5 rfl ?_
  refine at_callWIp (P := OC x (csErase f t) M) dx_162_6 rfl lc_0 rfl (by decide +kernel) (x_erase rx rf rt hR.1) hM ?_
  intro x9 M9 rx9 h9
  refine at_i2l dx_162_7 ?_
  refine at_astL dx_162_8 lc_883 ln_883 (by decide) (by decide) rx9 ?_
  refine at_goto dx_162_9 ?_
  refine at_const (x := 0) dx_162_19 rfl ?_
  refine at_iretI dx_162_20 (by decide) ?_
  exact ⟨_, h9, fr_um rfl⟩

set_option maxRecDepth 100000 in
set_option maxHeartbeats 4000000 in
theorem l_split {X : scr} {M : mem} {x p : Int} (rx : inR x) (rp : inR p) (hR : R2 M M) : At X 1 163 0 [vr 0, vi x, vi p, vr 883] [] M (wQ (OC x (csSplit p) M)) := by
  have hM : ∀ (x' : Int) (M' : mem), inR x' → (OC x (csSplit p) M) M' → wQ (OC x (csSplit p) M) 1 (vi x') M' := fun x' M' hx h => ⟨rfl, x', rfl, hx, M', h, fr_rf⟩
  refine at_aload dx_163_0 rfl ?_
  refine at_const (x := 0) dx_163_1 rfl ?_
  refine at_aload dx_163_2 rfl ?_
  refine at_iload dx_163_3 rfl ?_
  refine at_iload dx_163_4 rfl ?_
  refine at_callWIp (P := OC x (csSplit p) M) dx_163_5 rfl lc_0 rfl (by decide +kernel) (x_split rx rp hR.1) hM ?_
  intro x9 M9 rx9 h9
  refine at_i2l dx_163_6 ?_
  refine at_astL dx_163_7 lc_883 ln_883 (by decide) (by decide) rx9 ?_
  refine at_goto dx_163_8 ?_
  refine at_const (x := 0) dx_163_15 rfl ?_
  refine at_iretI dx_163_16 (by decide) ?_
  exact ⟨_, h9, fr_um rfl⟩

set_option maxRecDepth 100000 in
set_option maxHeartbeats 4000000 in
theorem l_join {X : scr} {M : mem} {x p : Int} (rx : inR x) (rp : inR p) (hR : R2 M M) : At X 1 164 0 [vr 0, vi x, vi p, vr 883] [] M (wQ (OC x (csJoin p) M)) := by
  have hM : ∀ (x' : Int) (M' : mem), inR x' → (OC x (csJoin p) M) M' → wQ (OC x (csJoin p) M) 1 (vi x') M' := fun x' M' hx h => ⟨rfl, x', rfl, hx, M', h, fr_rf⟩
  refine at_aload dx_164_0 rfl ?_
  refine at_const (x := 0) dx_164_1 rfl ?_
  refine at_aload dx_164_2 rfl ?_
  refine at_iload dx_164_3 rfl ?_
  refine at_iload dx_164_4 rfl ?_
  refine at_callWIp (P := OC x (csJoin p) M) dx_164_5 rfl lc_0 rfl (by decide +kernel) (x_join rx rp hR.1) hM ?_
  intro x9 M9 rx9 h9
  refine at_i2l dx_164_6 ?_
  refine at_astL dx_164_7 lc_883 ln_883 (by decide) (by decide) rx9 ?_
  refine at_goto dx_164_8 ?_
  refine at_const (x := 0) dx_164_15 rfl ?_
  refine at_iretI dx_164_16 (by decide) ?_
  exact ⟨_, h9, fr_um rfl⟩

set_option maxRecDepth 100000 in
set_option maxHeartbeats 4000000 in
theorem l_wrap {X : scr} {M : mem} {x f t y : Int} (rx : inR x) (rf : inR f) (rt : inR t) (ry : inR y) (hR : R2 M M) : At X 1 165 0 [vr 0, vi x, vi f, vi t, vi y, vr 883] [] M (wQ (OC x (csWrap f t y) M)) := by
  have hM : ∀ (x' : Int) (M' : mem), inR x' → (OC x (csWrap f t y) M) M' → wQ (OC x (csWrap f t y) M) 1 (vi x') M' := fun x' M' hx h => ⟨rfl, x', rfl, hx, M', h, fr_rf⟩
  refine at_aload dx_165_0 rfl ?_
  refine at_const (x := 0) dx_165_1 rfl ?_
  refine at_aload dx_165_2 rfl ?_
  refine at_iload dx_165_3 rfl ?_
  refine at_iload dx_165_4 rfl ?_
  refine at_iload dx_165_5 rfl ?_
  refine at_iload dx_165_6 rfl ?_
  refine at_callWIp (P := OC x (csWrap f t y) M) dx_165_7 rfl lc_0 rfl (by decide +kernel) (x_wrap rx rf rt ry hR.1) hM ?_
  intro x9 M9 rx9 h9
  refine at_i2l dx_165_8 ?_
  refine at_astL dx_165_9 lc_883 ln_883 (by decide) (by decide) rx9 ?_
  refine at_goto dx_165_10 ?_
  refine at_const (x := 0) dx_165_20 rfl ?_
  refine at_iretI dx_165_21 (by decide) ?_
  exact ⟨_, h9, fr_um rfl⟩

set_option maxRecDepth 100000 in
set_option maxHeartbeats 4000000 in
theorem l_unwrap {X : scr} {M : mem} {x p : Int} (rx : inR x) (rp : inR p) (hR : R2 M M) : At X 1 166 0 [vr 0, vi x, vi p, vr 883] [] M (wQ (OC x (csUnwrap p) M)) := by
  have hM : ∀ (x' : Int) (M' : mem), inR x' → (OC x (csUnwrap p) M) M' → wQ (OC x (csUnwrap p) M) 1 (vi x') M' := fun x' M' hx h => ⟨rfl, x', rfl, hx, M', h, fr_rf⟩
  refine at_aload dx_166_0 rfl ?_
  refine at_const (x := 0) dx_166_1 rfl ?_
  refine at_aload dx_166_2 rfl ?_
  refine at_iload dx_166_3 rfl ?_
  refine at_iload dx_166_4 rfl ?_
  refine at_callWIp (P := OC x (csUnwrap p) M) dx_166_5 rfl lc_0 rfl (by decide +kernel) (x_unwrap rx rp hR.1) hM ?_
  intro x9 M9 rx9 h9
  refine at_i2l dx_166_6 ?_
  refine at_astL dx_166_7 lc_883 ln_883 (by decide) (by decide) rx9 ?_
  refine at_goto dx_166_8 ?_
  refine at_const (x := 0) dx_166_15 rfl ?_
  refine at_iretI dx_166_16 (by decide) ?_
  exact ⟨_, h9, fr_um rfl⟩

set_option maxRecDepth 100000 in
set_option maxHeartbeats 4000000 in
theorem l_setType {X : scr} {M : mem} {x p y : Int} (rx : inR x) (rp : inR p) (ry : inR y) (hR : R2 M M) : At X 1 167 0 [vr 0, vi x, vi p, vi y, vr 883] [] M (wQ (OC x (csSetType p y) M)) := by
  have hM : ∀ (x' : Int) (M' : mem), inR x' → (OC x (csSetType p y) M) M' → wQ (OC x (csSetType p y) M) 1 (vi x') M' := fun x' M' hx h => ⟨rfl, x', rfl, hx, M', h, fr_rf⟩
  refine at_aload dx_167_0 rfl ?_
  refine at_const (x := 0) dx_167_1 rfl ?_
  refine at_aload dx_167_2 rfl ?_
  refine at_iload dx_167_3 rfl ?_
  refine at_iload dx_167_4 rfl ?_
  refine at_iload dx_167_5 rfl ?_
  refine at_callWIp (P := OC x (csSetType p y) M) dx_167_6 rfl lc_0 rfl (by decide +kernel) (x_setType rx rp ry hR.1) hM ?_
  intro x9 M9 rx9 h9
  refine at_i2l dx_167_7 ?_
  refine at_astL dx_167_8 lc_883 ln_883 (by decide) (by decide) rx9 ?_
  refine at_goto dx_167_9 ?_
  refine at_const (x := 0) dx_167_16 rfl ?_
  refine at_iretI dx_167_17 (by decide) ?_
  exact ⟨_, h9, fr_um rfl⟩

set_option maxRecDepth 100000 in
set_option maxHeartbeats 4000000 in
theorem l_mark {X : scr} {M : mem} {x f t m z : Int} (rx : inR x) (rf : inR f) (rt : inR t) (rm : inR m) (rz : inR z) (hz : z = 0 ∨ z = 1) (hR : R2 M M) : At X 1 168 0 [vr 0, vi x, vi f, vi t, vi m, vi z, vr 883] [] M (wQ (OC x (csMark f t m z) M)) := by
  have hM : ∀ (x' : Int) (M' : mem), inR x' → (OC x (csMark f t m z) M) M' → wQ (OC x (csMark f t m z) M) 1 (vi x') M' := fun x' M' hx h => ⟨rfl, x', rfl, hx, M', h, fr_rf⟩
  refine at_aload dx_168_0 rfl ?_
  refine at_const (x := 0) dx_168_1 rfl ?_
  refine at_aload dx_168_2 rfl ?_
  refine at_iload dx_168_3 rfl ?_
  refine at_iload dx_168_4 rfl ?_
  refine at_iload dx_168_5 rfl ?_
  refine at_iload dx_168_6 rfl ?_
  refine at_iload dx_168_7 rfl ?_
  refine at_callWIp (P := OC x (csMark f t m z) M) dx_168_8 rfl lc_0 rfl (by decide +kernel) (x_mark rx rf rt rm rz hz hR.1) hM ?_
  intro x9 M9 rx9 h9
  refine at_i2l dx_168_9 ?_
  refine at_astL dx_168_10 lc_883 ln_883 (by decide) (by decide) rx9 ?_
  refine at_goto dx_168_11 ?_
  refine at_const (x := 0) dx_168_21 rfl ?_
  refine at_iretI dx_168_22 (by decide) ?_
  exact ⟨_, h9, fr_um rfl⟩

set_option maxRecDepth 100000 in
set_option maxHeartbeats 4000000 in
theorem l_copy {X : scr} {M : mem} {x f t : Int} (rx : inR x) (rf : inR f) (rt : inR t) (hR : R2 M M) : At X 1 169 0 [vr 0, vi x, vi f, vi t, vr 883] [] M (wQ (fun M1 => (M 0 3 = 0 ∧ CpC x f t M M1) ∨ (M 0 3 ≠ 0 ∧ WC M M1))) := by
  have hM : ∀ (x' : Int) (M' : mem), inR x' → (fun M1 => (M 0 3 = 0 ∧ CpC x f t M M1) ∨ (M 0 3 ≠ 0 ∧ WC M M1)) M' → wQ (fun M1 => (M 0 3 = 0 ∧ CpC x f t M M1) ∨ (M 0 3 ≠ 0 ∧ WC M M1)) 1 (vi x') M' := fun x' M' hx h => ⟨rfl, x', rfl, hx, M', h, fr_rf⟩
  refine at_aload dx_169_0 rfl ?_
  refine at_const (x := 0) dx_169_1 rfl ?_
  refine at_aload dx_169_2 rfl ?_
  refine at_iload dx_169_3 rfl ?_
  refine at_iload dx_169_4 rfl ?_
  refine at_iload dx_169_5 rfl ?_
  refine at_callWIp (P := fun M1 => (M 0 3 = 0 ∧ CpC x f t M M1) ∨ (M 0 3 ≠ 0 ∧ WC M M1)) dx_169_6 rfl lc_0 rfl (by decide +kernel) (z_copy rx rf rt hR) hM ?_
  intro x9 M9 rx9 h9
  refine at_i2l dx_169_7 ?_
  refine at_astL dx_169_8 lc_883 ln_883 (by decide) (by decide) rx9 ?_
  refine at_goto dx_169_9 ?_
  refine at_const (x := 0) dx_169_16 rfl ?_
  refine at_iretI dx_169_17 (by decide) ?_
  exact ⟨_, h9, fr_um rfl⟩

set_option maxRecDepth 100000 in
set_option maxHeartbeats 4000000 in
theorem l_paste {X : scr} {M : mem} {x p : Int} (rx : inR x) (rp : inR p) (hR : R2 M M) : At X 1 170 0 [vr 0, vi x, vi p, vr 883] [] M (wQ (OC x (csPaste p) M)) := by
  have hM : ∀ (x' : Int) (M' : mem), inR x' → (OC x (csPaste p) M) M' → wQ (OC x (csPaste p) M) 1 (vi x') M' := fun x' M' hx h => ⟨rfl, x', rfl, hx, M', h, fr_rf⟩
  refine at_aload dx_170_0 rfl ?_
  refine at_const (x := 0) dx_170_1 rfl ?_
  refine at_aload dx_170_2 rfl ?_
  refine at_iload dx_170_3 rfl ?_
  refine at_iload dx_170_4 rfl ?_
  refine at_callWIp (P := OC x (csPaste p) M) dx_170_5 rfl lc_0 rfl (by decide +kernel) (x_paste rx rp hR.1) hM ?_
  intro x9 M9 rx9 h9
  refine at_i2l dx_170_6 ?_
  refine at_astL dx_170_7 lc_883 ln_883 (by decide) (by decide) rx9 ?_
  refine at_goto dx_170_8 ?_
  refine at_const (x := 0) dx_170_15 rfl ?_
  refine at_iretI dx_170_16 (by decide) ?_
  exact ⟨_, h9, fr_um rfl⟩

set_option maxRecDepth 100000 in
set_option maxHeartbeats 4000000 in
theorem l_takeBack {X : scr} {M : mem} {x : Int} (rx : inR x) (hR : R2 M M) : At X 1 171 0 [vr 0, vi x, vr 883] [] M (wQ (TC x M)) := by
  have hM : ∀ (x' : Int) (M' : mem), inR x' → (TC x M) M' → wQ (TC x M) 1 (vi x') M' := fun x' M' hx h => ⟨rfl, x', rfl, hx, M', h, fr_rf⟩
  refine at_aload dx_171_0 rfl ?_
  refine at_const (x := 0) dx_171_1 rfl ?_
  refine at_aload dx_171_2 rfl ?_
  refine at_iload dx_171_3 rfl ?_
  refine at_callWIp (P := TC x M) dx_171_4 rfl lc_0 rfl (by decide +kernel) (x_takeBack rx hR.1) hM ?_
  intro x9 M9 rx9 h9
  refine at_i2l dx_171_5 ?_
  refine at_astL dx_171_6 lc_883 ln_883 (by decide) (by decide) rx9 ?_
  refine at_goto dx_171_7 ?_
  refine at_const (x := 0) dx_171_14 rfl ?_
  refine at_iretI dx_171_15 (by decide) ?_
  exact ⟨_, h9, fr_um rfl⟩

set_option maxRecDepth 100000 in
set_option maxHeartbeats 4000000 in
theorem l_revert {X : scr} {M : mem} {x s : Int} (rx : inR x) (rs : inR s) (hR : R2 M M) : At X 1 172 0 [vr 0, vi x, vi s, vr 883] [] M (wQ (fun M1 => (M 0 3 = 0 ∧ M1 = M) ∨ (M 0 3 ≠ 0 ∧ WC M M1))) := by
  have hM : ∀ (x' : Int) (M' : mem), inR x' → (fun M1 => (M 0 3 = 0 ∧ M1 = M) ∨ (M 0 3 ≠ 0 ∧ WC M M1)) M' → wQ (fun M1 => (M 0 3 = 0 ∧ M1 = M) ∨ (M 0 3 ≠ 0 ∧ WC M M1)) 1 (vi x') M' := fun x' M' hx h => ⟨rfl, x', rfl, hx, M', h, fr_rf⟩
  refine at_aload dx_172_0 rfl ?_
  refine at_const (x := 0) dx_172_1 rfl ?_
  refine at_aload dx_172_2 rfl ?_
  refine at_iload dx_172_3 rfl ?_
  refine at_iload dx_172_4 rfl ?_
  refine at_callWIp (P := fun M1 => (M 0 3 = 0 ∧ M1 = M) ∨ (M 0 3 ≠ 0 ∧ WC M M1)) dx_172_5 rfl lc_0 rfl (by decide +kernel) (z_revert rx rs hR) hM ?_
  intro x9 M9 rx9 h9
  refine at_i2l dx_172_6 ?_
  refine at_astL dx_172_7 lc_883 ln_883 (by decide) (by decide) rx9 ?_
  refine at_goto dx_172_8 ?_
  refine at_const (x := 0) dx_172_15 rfl ?_
  refine at_iretI dx_172_16 (by decide) ?_
  exact ⟨_, h9, fr_um rfl⟩

set_option maxRecDepth 100000 in
set_option maxHeartbeats 4000000 in
theorem l_send {X : scr} {M : mem} {x : Int} (rx : inR x) (hR : R2 M M) : At X 1 173 0 [vr 0, vi x, vr 883] [] M (wQ (SC x M)) := by
  have hM : ∀ (x' : Int) (M' : mem), inR x' → (SC x M) M' → wQ (SC x M) 1 (vi x') M' := fun x' M' hx h => ⟨rfl, x', rfl, hx, M', h, fr_rf⟩
  refine at_aload dx_173_0 rfl ?_
  refine at_const (x := 0) dx_173_1 rfl ?_
  refine at_aload dx_173_2 rfl ?_
  refine at_iload dx_173_3 rfl ?_
  refine at_callWIp (P := SC x M) dx_173_4 rfl lc_0 rfl (by decide +kernel) (x_send rx hR.1) hM ?_
  intro x9 M9 rx9 h9
  refine at_i2l dx_173_5 ?_
  refine at_astL dx_173_6 lc_883 ln_883 (by decide) (by decide) rx9 ?_
  refine at_goto dx_173_7 ?_
  refine at_const (x := 0) dx_173_14 rfl ?_
  refine at_iretI dx_173_15 (by decide) ?_
  exact ⟨_, h9, fr_um rfl⟩

set_option maxRecDepth 100000 in
set_option maxHeartbeats 4000000 in
theorem l_receive {X : scr} {M : mem} {x : Int} (rx : inR x) (hR : R2 M M) : At X 1 174 0 [vr 0, vi x, vr 883] [] M (wQ (fun M1 => (M 0 3 = 0 ∧ RC0 x M M1) ∨ (M 0 3 ≠ 0 ∧ WC M M1))) := by
  have hM : ∀ (x' : Int) (M' : mem), inR x' → (fun M1 => (M 0 3 = 0 ∧ RC0 x M M1) ∨ (M 0 3 ≠ 0 ∧ WC M M1)) M' → wQ (fun M1 => (M 0 3 = 0 ∧ RC0 x M M1) ∨ (M 0 3 ≠ 0 ∧ WC M M1)) 1 (vi x') M' := fun x' M' hx h => ⟨rfl, x', rfl, hx, M', h, fr_rf⟩
  refine at_aload dx_174_0 rfl ?_
  refine at_const (x := 0) dx_174_1 rfl ?_
  refine at_aload dx_174_2 rfl ?_
  refine at_iload dx_174_3 rfl ?_
  refine at_callWIp (P := fun M1 => (M 0 3 = 0 ∧ RC0 x M M1) ∨ (M 0 3 ≠ 0 ∧ WC M M1)) dx_174_4 rfl lc_0 rfl (by decide +kernel) (z_receive rx hR) hM ?_
  intro x9 M9 rx9 h9
  refine at_i2l dx_174_5 ?_
  refine at_astL dx_174_6 lc_883 ln_883 (by decide) (by decide) rx9 ?_
  refine at_goto dx_174_7 ?_
  refine at_const (x := 0) dx_174_11 rfl ?_
  refine at_iretI dx_174_12 (by decide) ?_
  exact ⟨_, h9, fr_um rfl⟩

set_option maxRecDepth 100000 in
set_option maxHeartbeats 4000000 in
theorem l_lost {X : scr} {M : mem} {x : Int} (rx : inR x) (hR : R2 M M) : At X 1 175 0 [vr 0, vi x, vr 883] [] M (wQ (fun M1 => CI M1 ∧ fr wq M M1)) := by
  have hM : ∀ (x' : Int) (M' : mem), inR x' → (fun M1 => CI M1 ∧ fr wq M M1) M' → wQ (fun M1 => CI M1 ∧ fr wq M M1) 1 (vi x') M' := fun x' M' hx h => ⟨rfl, x', rfl, hx, M', h, fr_rf⟩
  refine at_aload dx_175_0 rfl ?_
  refine at_const (x := 0) dx_175_1 rfl ?_
  refine at_aload dx_175_2 rfl ?_
  refine at_iload dx_175_3 rfl ?_
  refine at_callWIp (P := fun M1 => CI M1 ∧ fr wq M M1) dx_175_4 rfl lc_0 rfl (by decide +kernel) (q_lost rx hR.1) hM ?_
  intro x9 M9 rx9 h9
  refine at_i2l dx_175_5 ?_
  refine at_astL dx_175_6 lc_883 ln_883 (by decide) (by decide) rx9 ?_
  refine at_goto dx_175_7 ?_
  refine at_const (x := 0) dx_175_11 rfl ?_
  refine at_iretI dx_175_12 (by decide) ?_
  exact ⟨_, h9, fr_um rfl⟩

set_option maxRecDepth 100000 in
set_option maxHeartbeats 4000000 in
theorem l_version {X : scr} {M : mem} {x : Int} (rx : inR x) (hR : R2 M M) : At X 1 176 0 [vr 0, vi x, vr 883] [] M (wQ (fun M1 => CI M1 ∧ fr wq M M1)) := by
  have hM : ∀ (x' : Int) (M' : mem), inR x' → (fun M1 => CI M1 ∧ fr wq M M1) M' → wQ (fun M1 => CI M1 ∧ fr wq M M1) 1 (vi x') M' := fun x' M' hx h => ⟨rfl, x', rfl, hx, M', h, fr_rf⟩
  refine at_aload dx_176_0 rfl ?_
  refine at_const (x := 0) dx_176_1 rfl ?_
  refine at_aload dx_176_2 rfl ?_
  refine at_iload dx_176_3 rfl ?_
  refine at_callWIp (P := fun M1 => CI M1 ∧ fr wq M M1) dx_176_4 rfl lc_0 rfl (by decide +kernel) (q_version rx hR.1) hM ?_
  intro x9 M9 rx9 h9
  refine at_i2l dx_176_5 ?_
  refine at_astL dx_176_6 lc_883 ln_883 (by decide) (by decide) rx9 ?_
  refine at_goto dx_176_7 ?_
  refine at_const (x := 0) dx_176_11 rfl ?_
  refine at_iretI dx_176_12 (by decide) ?_
  exact ⟨_, h9, fr_um rfl⟩

set_option maxRecDepth 100000 in
set_option maxHeartbeats 4000000 in
theorem l_size {X : scr} {M : mem} {x : Int} (rx : inR x) (hR : R2 M M) : At X 1 177 0 [vr 0, vi x, vr 883] [] M (wQ (fun M1 => CI M1 ∧ fr wq M M1)) := by
  have hM : ∀ (x' : Int) (M' : mem), inR x' → (fun M1 => CI M1 ∧ fr wq M M1) M' → wQ (fun M1 => CI M1 ∧ fr wq M M1) 1 (vi x') M' := fun x' M' hx h => ⟨rfl, x', rfl, hx, M', h, fr_rf⟩
  refine at_aload dx_177_0 rfl ?_
  refine at_const (x := 0) dx_177_1 rfl ?_
  refine at_aload dx_177_2 rfl ?_
  refine at_iload dx_177_3 rfl ?_
  refine at_callWIp (P := fun M1 => CI M1 ∧ fr wq M M1) dx_177_4 rfl lc_0 rfl (by decide +kernel) (q_size rx hR.1) hM ?_
  intro x9 M9 rx9 h9
  refine at_i2l dx_177_5 ?_
  refine at_astL dx_177_6 lc_883 ln_883 (by decide) (by decide) rx9 ?_
  refine at_goto dx_177_7 ?_
  refine at_const (x := 0) dx_177_11 rfl ?_
  refine at_iretI dx_177_12 (by decide) ?_
  exact ⟨_, h9, fr_um rfl⟩

set_option maxRecDepth 100000 in
set_option maxHeartbeats 4000000 in
theorem l_token {X : scr} {M : mem} {x p : Int} (rx : inR x) (rp : inR p) (hR : R2 M M) : At X 1 178 0 [vr 0, vi x, vi p, vr 883] [] M (wQ (fun M1 => CI M1 ∧ fr wq M M1)) := by
  have hM : ∀ (x' : Int) (M' : mem), inR x' → (fun M1 => CI M1 ∧ fr wq M M1) M' → wQ (fun M1 => CI M1 ∧ fr wq M M1) 1 (vi x') M' := fun x' M' hx h => ⟨rfl, x', rfl, hx, M', h, fr_rf⟩
  refine at_aload dx_178_0 rfl ?_
  refine at_const (x := 0) dx_178_1 rfl ?_
  refine at_aload dx_178_2 rfl ?_
  refine at_iload dx_178_3 rfl ?_
  refine at_iload dx_178_4 rfl ?_
  refine at_callWIp (P := fun M1 => CI M1 ∧ fr wq M M1) dx_178_5 rfl lc_0 rfl (by decide +kernel) (q_token rx rp hR.1) hM ?_
  intro x9 M9 rx9 h9
  refine at_i2l dx_178_6 ?_
  refine at_astL dx_178_7 lc_883 ln_883 (by decide) (by decide) rx9 ?_
  refine at_goto dx_178_8 ?_
  refine at_const (x := 0) dx_178_12 rfl ?_
  refine at_iretI dx_178_13 (by decide) ?_
  exact ⟨_, h9, fr_um rfl⟩

set_option maxRecDepth 100000 in
set_option maxHeartbeats 4000000 in
theorem l_around {X : scr} {M : mem} {x p : Int} (rx : inR x) (rp : inR p) (hR : R2 M M) : At X 1 179 0 [vr 0, vi x, vi p, vr 883] [] M (wQ (fun M1 => CI M1 ∧ fr wq M M1)) := by
  have hM : ∀ (x' : Int) (M' : mem), inR x' → (fun M1 => CI M1 ∧ fr wq M M1) M' → wQ (fun M1 => CI M1 ∧ fr wq M M1) 1 (vi x') M' := fun x' M' hx h => ⟨rfl, x', rfl, hx, M', h, fr_rf⟩
  refine at_aload dx_179_0 rfl ?_
  refine at_const (x := 0) dx_179_1 rfl ?_
  refine at_aload dx_179_2 rfl ?_
  refine at_iload dx_179_3 rfl ?_
  refine at_iload dx_179_4 rfl ?_
  refine at_callWIp (P := fun M1 => CI M1 ∧ fr wq M M1) dx_179_5 rfl lc_0 rfl (by decide +kernel) (q_around rx rp hR.1) hM ?_
  intro x9 M9 rx9 h9
  refine at_i2l dx_179_6 ?_
  refine at_astL dx_179_7 lc_883 ln_883 (by decide) (by decide) rx9 ?_
  refine at_goto dx_179_8 ?_
  refine at_const (x := 0) dx_179_12 rfl ?_
  refine at_iretI dx_179_13 (by decide) ?_
  exact ⟨_, h9, fr_um rfl⟩

set_option maxRecDepth 100000 in
set_option maxHeartbeats 4000000 in
theorem l_comment {X : scr} {M : mem} {f t : Int} (rf : inR f) (rt : inR t) (hR : R2 M M) : At X 1 180 0 [vr 0, vi f, vi t, vr 883] [] M (wQ (fun M1 => CI M1 ∧ fr (fun q => q = 0 ∨ q = 10 ∨ q = 11) M M1 ∧ M1 0 3 = M 0 3)) := by
  have hM : ∀ (x' : Int) (M' : mem), inR x' → (fun M1 => CI M1 ∧ fr (fun q => q = 0 ∨ q = 10 ∨ q = 11) M M1 ∧ M1 0 3 = M 0 3) M' → wQ (fun M1 => CI M1 ∧ fr (fun q => q = 0 ∨ q = 10 ∨ q = 11) M M1 ∧ M1 0 3 = M 0 3) 1 (vi x') M' := fun x' M' hx h => ⟨rfl, x', rfl, hx, M', h, fr_rf⟩
  refine at_aload dx_180_0 rfl ?_
  refine at_const (x := 0) dx_180_1 rfl ?_
  refine at_aload dx_180_2 rfl ?_
  refine at_iload dx_180_3 rfl ?_
  refine at_iload dx_180_4 rfl ?_
  refine at_callWIp (P := fun M1 => CI M1 ∧ fr (fun q => q = 0 ∨ q = 10 ∨ q = 11) M M1 ∧ M1 0 3 = M 0 3) dx_180_5 rfl lc_0 rfl (by decide +kernel) (q_comment rf rt hR.1) hM ?_
  intro x9 M9 rx9 h9
  refine at_i2l dx_180_6 ?_
  refine at_astL dx_180_7 lc_883 ln_883 (by decide) (by decide) rx9 ?_
  refine at_goto dx_180_8 ?_
  refine at_const (x := 0) dx_180_18 rfl ?_
  refine at_iretI dx_180_19 (by decide) ?_
  exact ⟨_, h9, fr_um rfl⟩

set_option maxRecDepth 100000 in
set_option maxHeartbeats 4000000 in
theorem l_commentAt {X : scr} {M : mem} {x : Int} (rx : inR x) (hR : R2 M M) : At X 1 181 0 [vr 0, vi x, vr 883] [] M (wQ (fun M1 => CI M1 ∧ fr wq M M1)) := by
  have hM : ∀ (x' : Int) (M' : mem), inR x' → (fun M1 => CI M1 ∧ fr wq M M1) M' → wQ (fun M1 => CI M1 ∧ fr wq M M1) 1 (vi x') M' := fun x' M' hx h => ⟨rfl, x', rfl, hx, M', h, fr_rf⟩
  refine at_aload dx_181_0 rfl ?_
  refine at_const (x := 0) dx_181_1 rfl ?_
  refine at_aload dx_181_2 rfl ?_
  refine at_iload dx_181_3 rfl ?_
  refine at_callWIp (P := fun M1 => CI M1 ∧ fr wq M M1) dx_181_4 rfl lc_0 rfl (by decide +kernel) (q_commentAt rx hR.1) hM ?_
  intro x9 M9 rx9 h9
  refine at_i2l dx_181_5 ?_
  refine at_astL dx_181_6 lc_883 ln_883 (by decide) (by decide) rx9 ?_
  refine at_goto dx_181_7 ?_
  refine at_const (x := 0) dx_181_11 rfl ?_
  refine at_iretI dx_181_12 (by decide) ?_
  exact ⟨_, h9, fr_um rfl⟩

set_option maxRecDepth 100000 in
set_option maxHeartbeats 4000000 in
theorem l_rule {X : scr} {M : mem} {t e a b : Int} (rt : inR t) (re : inR e) (ra : inR a) (rb : inR b) (hR : R2 M M) : At X 1 160 0 [vr 0, vi t, vi e, vi a, vi b] [] M (qI (fun x M' => RuC t e a b x M M')) := by
  have hM : ∀ (e' : Nat) (M' : mem), inR ((e' : Int) + 1) → RuC t e a b ((e' : Int) + 1) M M' → (qI (fun x M' => RuC t e a b x M M')) 1 (vi ((e' : Int) + 1)) M' := fun e' M' hx h => ⟨rfl, _, rfl, hx, h⟩
  refine at_aload dx_160_0 rfl ?_
  refine at_iload dx_160_1 rfl ?_
  refine at_iload dx_160_2 rfl ?_
  refine at_iload dx_160_3 rfl ?_
  refine at_iload dx_160_4 rfl ?_
  refine at_callWVr (P := RuC t e a b 0 M) (E := fun e' M' => RuC t e a b ((e' : Int) + 1) M M') dx_160_5 rfl lc_0 rfl (by decide +kernel) (z_rule rt re ra rb hR) hM ?_
  intro M9 h9
  refine at_goto dx_160_6 ?_
  refine at_const (x := 0) dx_160_16 rfl ?_
  refine at_iretI dx_160_17 (by decide) ?_
  exact h9
