/-! ===== the law's wrappers ===== -/
theorem cwk_R (b e : Nat) : inR (ii_k (cwk b e)) := by
  have h4 : cwk b e < 4 := Nat.mod_lt _ (by decide)
  unfold ii_k
  rw [Nat.ble_eq_true_of_le (show cwk b e ≤ 2147483647 by omega)]
  show inR ((cwk b e : Nat) : Int)
  exact ⟨by omega, by omega⟩
theorem MI_fx {M M' : mem} (hM : MI M) (h : fr (fun q => q < 856 ∨ q = 883) M M') : MI M' := by
  have F : frE (fun q j => q < 856 ∨ q = 883) M M' := fun q j hq => h q j hq
  obtain ⟨a1, a2, a3, a4, a5⟩ := hM
  have g : ∀ (q : Nat) (j : Int), 856 ≤ q → q ≠ 883 → M' q j = M q j := fun q j hq h3 => h q j (by (try dsimp only); omega)
  have d : ∀ c : Int, dc M' c = dc M c := fun c => dc_cg (g 860 c (by decide) (by decide)) (fun j _ => g 859 _ (by decide) (by decide))
  refine ⟨fun d h0 h3 => by rw [g 860 d (by decide) (by decide)]; exact a1 d h0 h3, by rw [g 856 13 (by decide) (by decide)]; exact a2, by rw [g 856 19 (by decide) (by decide)]; exact a3, ?_, fun c h0 h2 => ?_⟩
  · rw [g 856 13 (by decide) (by decide), lgW_fe F (fun q j e => by (try dsimp only at e); omega), d]; exact a4
  · have h9 := a5 c h0 h2
    unfold MC at h9 ⊢
    rw [g 870 c (by decide) (by decide), g 871 c (by decide) (by decide), g 874 c (by decide) (by decide), g 856 13 (by decide) (by decide), lgW_fe F (fun q j e => by (try dsimp only at e); omega), d, pdW_fe F (fun q j e => by (try dsimp only at e); omega)]
    exact h9
section WR
variable {X : scr} {m i a b k : Nat} {ls st : List (sx_V Int)} {M : mem}
abbrev qCM : Nat → sx_V Int → mem → Prop := qI (fun _ M' => CI M' ∧ MI M')
theorem cwk_ok {S : List Nat} (hS : (S.all (fun e => !(Nat.beq (cwk b e) 0 || Nat.ble 3 e))) = true) {e : Nat} (he : e ∈ S) : (Nat.beq (cwk b e) 0 || Nat.ble 3 e) = false := by
  have h := List.all_eq_true.mp hS e he
  simpa using h
theorem at_callWI {as r : List (sx_V Int)} {S : List Nat} (hd : cdx m i = (39, (a, b))) (hp : sx_pop (Nat.mod b 16) [] st = some (as, vr k :: r)) (hk : ly_c k = Nat.mod (Nat.div b 16) 16) (hs : (Nat.ble (Nat.mod (Nat.div b 16) 16) 7 && (Nat.ble (sx_sw r) 8 && sx_n2 as)) = true)
    (hS : (S.all (fun e => !(Nat.beq (cwk b e) 0 || Nat.ble 3 e))) = true) (C : At X 0 a 0 (vr k :: as) [] M (qT (qI (fun x M' => CI M' ∧ fr lo M M')) (ER S M))) (hM : MI M) (K : ∀ x M', inR x → CI M' → MI M' → At X 1 m (i + 1) ls (vi x :: r) M' qCM) : At X 1 m i ls st M qCM := by
  refine at_callW hd hp hk hs C (fun v M' h => ?_) (fun v M' h => ?_) (fun e v M' h => ?_)
  · rcases h with h | ⟨e, h, -⟩
    · exact absurd h.1 (by decide)
    · omega
  · rcases h with ⟨-, x, rfl, hr, hx⟩ | ⟨e, h, -⟩
    · exact K x M' hr hx.1 (MI_fr hM hx.2)
    · omega
  · rcases h with ⟨h, -⟩ | ⟨e', h, -, h2⟩
    · omega
    · obtain rfl : e = e' := by omega
      exact ⟨cwk_ok hS h2.1, rfl, _, rfl, cwk_R b e, h2.2.1, MI_fr hM h2.2.2⟩
theorem at_callWV {as r : List (sx_V Int)} {S : List Nat} (hd : cdx m i = (39, (a, b))) (hp : sx_pop (Nat.mod b 16) [] st = some (as, vr k :: r)) (hk : ly_c k = Nat.mod (Nat.div b 16) 16) (hs : (Nat.ble (Nat.mod (Nat.div b 16) 16) 7 && (Nat.ble (sx_sw r) 8 && sx_n2 as)) = true)
    (hS : (S.all (fun e => !(Nat.beq (cwk b e) 0 || Nat.ble 3 e))) = true) (C : At X 0 a 0 (vr k :: as) [] M (qT (qV (fun M' => CI M' ∧ fr lo M M')) (ER S M))) (hM : MI M) (K : ∀ M', CI M' → MI M' → At X 1 m (i + 1) ls r M' qCM) : At X 1 m i ls st M qCM := by
  refine at_callW hd hp hk hs C (fun v M' h => ?_) (fun v M' h => ?_) (fun e v M' h => ?_)
  · rcases h with ⟨-, -, hx⟩ | ⟨e, h, -⟩
    · exact K M' hx.1 (MI_fr hM hx.2)
    · omega
  · rcases h with ⟨h, -⟩ | ⟨e, h, -⟩
    · exact absurd h (by decide)
    · omega
  · rcases h with ⟨h, -⟩ | ⟨e', h, -, h2⟩
    · omega
    · obtain rfl : e = e' := by omega
      exact ⟨cwk_ok hS h2.1, rfl, _, rfl, cwk_R b e, h2.2.1, MI_fr hM h2.2.2⟩
end WR

set_option maxRecDepth 100000 in
set_option maxHeartbeats 4000000 in
theorem l_type {X : scr} {M : mem} {x p l : Int} (rx : inR x) (rp : inR p) (rl : inR l) (hC : CI M) (hM : MI M) : At X 1 160 0 [vr 0, vi x, vi p, vi l, vr 883] [] M (qCM) := by
  refine at_aload dx_160_0 rfl ?_
  refine at_const (x := 0) dx_160_1 rfl ?_
  refine at_aload dx_160_2 rfl ?_
  refine at_iload dx_160_3 rfl ?_
  refine at_iload dx_160_4 rfl ?_
  refine at_iload dx_160_5 rfl ?_
  refine at_callWI dx_160_6 rfl lc_0 rfl (by decide +kernel) (p_type rx rp rl hC) hM ?_
  intro x9 M9 rx9 C9 K9
  refine at_i2l dx_160_7 ?_
  refine at_astL dx_160_8 lc_883 ln_883 (by decide) (by decide) rx9 ?_
  refine at_goto dx_160_9 ?_
  refine at_const (x := 0) dx_160_16 rfl ?_
  refine at_iretI dx_160_17 (by decide) ?_
  exact ⟨CI_fr C9 (fr_um (show hi 883 by decide)), MI_fx K9 (fr_um (Or.inr rfl))⟩

set_option maxRecDepth 100000 in
set_option maxHeartbeats 4000000 in
theorem l_erase {X : scr} {M : mem} {x f t : Int} (rx : inR x) (rf : inR f) (rt : inR t) (hC : CI M) (hM : MI M) : At X 1 161 0 [vr 0, vi x, vi f, vi t, vr 883] [] M (qCM) := by
  refine at_aload dx_161_0 rfl ?_
  refine at_const (x := 0) dx_161_1 rfl ?_
  refine at_aload dx_161_2 rfl ?_
  refine at_iload dx_161_3 rfl ?_
  refine at_iload dx_161_4 rfl ?_
  refine at_iload dx_161_5 rfl ?_
  refine at_callWI dx_161_6 rfl lc_0 rfl (by decide +kernel) (p_erase rx rf rt hC) hM ?_
  intro x9 M9 rx9 C9 K9
  refine at_i2l dx_161_7 ?_
  refine at_astL dx_161_8 lc_883 ln_883 (by decide) (by decide) rx9 ?_
  refine at_goto dx_161_9 ?_
  refine at_const (x := 0) dx_161_19 rfl ?_
  refine at_iretI dx_161_20 (by decide) ?_
  exact ⟨CI_fr C9 (fr_um (show hi 883 by decide)), MI_fx K9 (fr_um (Or.inr rfl))⟩

set_option maxRecDepth 100000 in
set_option maxHeartbeats 4000000 in
theorem l_split {X : scr} {M : mem} {x p : Int} (rx : inR x) (rp : inR p) (hC : CI M) (hM : MI M) : At X 1 162 0 [vr 0, vi x, vi p, vr 883] [] M (qCM) := by
  refine at_aload dx_162_0 rfl ?_
  refine at_const (x := 0) dx_162_1 rfl ?_
  refine at_aload dx_162_2 rfl ?_
  refine at_iload dx_162_3 rfl ?_
  refine at_iload dx_162_4 rfl ?_
  refine at_callWI dx_162_5 rfl lc_0 rfl (by decide +kernel) (p_split rx rp hC) hM ?_
  intro x9 M9 rx9 C9 K9
  refine at_i2l dx_162_6 ?_
  refine at_astL dx_162_7 lc_883 ln_883 (by decide) (by decide) rx9 ?_
  refine at_goto dx_162_8 ?_
  refine at_const (x := 0) dx_162_15 rfl ?_
  refine at_iretI dx_162_16 (by decide) ?_
  exact ⟨CI_fr C9 (fr_um (show hi 883 by decide)), MI_fx K9 (fr_um (Or.inr rfl))⟩

set_option maxRecDepth 100000 in
set_option maxHeartbeats 4000000 in
theorem l_join {X : scr} {M : mem} {x p : Int} (rx : inR x) (rp : inR p) (hC : CI M) (hM : MI M) : At X 1 163 0 [vr 0, vi x, vi p, vr 883] [] M (qCM) := by
  refine at_aload dx_163_0 rfl ?_
  refine at_const (x := 0) dx_163_1 rfl ?_
  refine at_aload dx_163_2 rfl ?_
  refine at_iload dx_163_3 rfl ?_
  refine at_iload dx_163_4 rfl ?_
  refine at_callWI dx_163_5 rfl lc_0 rfl (by decide +kernel) (p_join rx rp hC) hM ?_
  intro x9 M9 rx9 C9 K9
  refine at_i2l dx_163_6 ?_
  refine at_astL dx_163_7 lc_883 ln_883 (by decide) (by decide) rx9 ?_
  refine at_goto dx_163_8 ?_
  refine at_const (x := 0) dx_163_15 rfl ?_
  refine at_iretI dx_163_16 (by decide) ?_
  exact ⟨CI_fr C9 (fr_um (show hi 883 by decide)), MI_fx K9 (fr_um (Or.inr rfl))⟩

set_option maxRecDepth 100000 in
set_option maxHeartbeats 4000000 in
theorem l_wrap {X : scr} {M : mem} {x f t y : Int} (rx : inR x) (rf : inR f) (rt : inR t) (ry : inR y) (hC : CI M) (hM : MI M) : At X 1 164 0 [vr 0, vi x, vi f, vi t, vi y, vr 883] [] M (qCM) := by
  refine at_aload dx_164_0 rfl ?_
  refine at_const (x := 0) dx_164_1 rfl ?_
  refine at_aload dx_164_2 rfl ?_
  refine at_iload dx_164_3 rfl ?_
  refine at_iload dx_164_4 rfl ?_
  refine at_iload dx_164_5 rfl ?_
  refine at_iload dx_164_6 rfl ?_
  refine at_callWI dx_164_7 rfl lc_0 rfl (by decide +kernel) (p_wrap rx rf rt ry hC) hM ?_
  intro x9 M9 rx9 C9 K9
  refine at_i2l dx_164_8 ?_
  refine at_astL dx_164_9 lc_883 ln_883 (by decide) (by decide) rx9 ?_
  refine at_goto dx_164_10 ?_
  refine at_const (x := 0) dx_164_20 rfl ?_
  refine at_iretI dx_164_21 (by decide) ?_
  exact ⟨CI_fr C9 (fr_um (show hi 883 by decide)), MI_fx K9 (fr_um (Or.inr rfl))⟩

set_option maxRecDepth 100000 in
set_option maxHeartbeats 4000000 in
theorem l_unwrap {X : scr} {M : mem} {x p : Int} (rx : inR x) (rp : inR p) (hC : CI M) (hM : MI M) : At X 1 165 0 [vr 0, vi x, vi p, vr 883] [] M (qCM) := by
  refine at_aload dx_165_0 rfl ?_
  refine at_const (x := 0) dx_165_1 rfl ?_
  refine at_aload dx_165_2 rfl ?_
  refine at_iload dx_165_3 rfl ?_
  refine at_iload dx_165_4 rfl ?_
  refine at_callWI dx_165_5 rfl lc_0 rfl (by decide +kernel) (p_unwrap rx rp hC) hM ?_
  intro x9 M9 rx9 C9 K9
  refine at_i2l dx_165_6 ?_
  refine at_astL dx_165_7 lc_883 ln_883 (by decide) (by decide) rx9 ?_
  refine at_goto dx_165_8 ?_
  refine at_const (x := 0) dx_165_15 rfl ?_
  refine at_iretI dx_165_16 (by decide) ?_
  exact ⟨CI_fr C9 (fr_um (show hi 883 by decide)), MI_fx K9 (fr_um (Or.inr rfl))⟩

set_option maxRecDepth 100000 in
set_option maxHeartbeats 4000000 in
theorem l_setType {X : scr} {M : mem} {x p y : Int} (rx : inR x) (rp : inR p) (ry : inR y) (hC : CI M) (hM : MI M) : At X 1 166 0 [vr 0, vi x, vi p, vi y, vr 883] [] M (qCM) := by
  refine at_aload dx_166_0 rfl ?_
  refine at_const (x := 0) dx_166_1 rfl ?_
  refine at_aload dx_166_2 rfl ?_
  refine at_iload dx_166_3 rfl ?_
  refine at_iload dx_166_4 rfl ?_
  refine at_iload dx_166_5 rfl ?_
  refine at_callWI dx_166_6 rfl lc_0 rfl (by decide +kernel) (p_setType rx rp ry hC) hM ?_
  intro x9 M9 rx9 C9 K9
  refine at_i2l dx_166_7 ?_
  refine at_astL dx_166_8 lc_883 ln_883 (by decide) (by decide) rx9 ?_
  refine at_goto dx_166_9 ?_
  refine at_const (x := 0) dx_166_16 rfl ?_
  refine at_iretI dx_166_17 (by decide) ?_
  exact ⟨CI_fr C9 (fr_um (show hi 883 by decide)), MI_fx K9 (fr_um (Or.inr rfl))⟩

set_option maxRecDepth 100000 in
set_option maxHeartbeats 4000000 in
theorem l_mark {X : scr} {M : mem} {x f t m z : Int} (rx : inR x) (rf : inR f) (rt : inR t) (rm : inR m) (rz : inR z) (hz : z = 0 ∨ z = 1) (hC : CI M) (hM : MI M) : At X 1 167 0 [vr 0, vi x, vi f, vi t, vi m, vi z, vr 883] [] M (qCM) := by
  refine at_aload dx_167_0 rfl ?_
  refine at_const (x := 0) dx_167_1 rfl ?_
  refine at_aload dx_167_2 rfl ?_
  refine at_iload dx_167_3 rfl ?_
  refine at_iload dx_167_4 rfl ?_
  refine at_iload dx_167_5 rfl ?_
  refine at_iload dx_167_6 rfl ?_
  refine at_iload dx_167_7 rfl ?_
  refine at_callWI dx_167_8 rfl lc_0 rfl (by decide +kernel) (p_mark rx rf rt rm rz hC hz) hM ?_
  intro x9 M9 rx9 C9 K9
  refine at_i2l dx_167_9 ?_
  refine at_astL dx_167_10 lc_883 ln_883 (by decide) (by decide) rx9 ?_
  refine at_goto dx_167_11 ?_
  refine at_const (x := 0) dx_167_21 rfl ?_
  refine at_iretI dx_167_22 (by decide) ?_
  exact ⟨CI_fr C9 (fr_um (show hi 883 by decide)), MI_fx K9 (fr_um (Or.inr rfl))⟩

set_option maxRecDepth 100000 in
set_option maxHeartbeats 4000000 in
theorem l_copy {X : scr} {M : mem} {x f t : Int} (rx : inR x) (rf : inR f) (rt : inR t) (hC : CI M) (hM : MI M) : At X 1 168 0 [vr 0, vi x, vi f, vi t, vr 883] [] M (qCM) := by
  refine at_aload dx_168_0 rfl ?_
  refine at_const (x := 0) dx_168_1 rfl ?_
  refine at_aload dx_168_2 rfl ?_
  refine at_iload dx_168_3 rfl ?_
  refine at_iload dx_168_4 rfl ?_
  refine at_iload dx_168_5 rfl ?_
  refine at_callWI dx_168_6 rfl lc_0 rfl (by decide +kernel) (p_copy rx rf rt hC) hM ?_
  intro x9 M9 rx9 C9 K9
  refine at_i2l dx_168_7 ?_
  refine at_astL dx_168_8 lc_883 ln_883 (by decide) (by decide) rx9 ?_
  refine at_goto dx_168_9 ?_
  refine at_const (x := 0) dx_168_16 rfl ?_
  refine at_iretI dx_168_17 (by decide) ?_
  exact ⟨CI_fr C9 (fr_um (show hi 883 by decide)), MI_fx K9 (fr_um (Or.inr rfl))⟩

set_option maxRecDepth 100000 in
set_option maxHeartbeats 4000000 in
theorem l_paste {X : scr} {M : mem} {x p : Int} (rx : inR x) (rp : inR p) (hC : CI M) (hM : MI M) : At X 1 169 0 [vr 0, vi x, vi p, vr 883] [] M (qCM) := by
  refine at_aload dx_169_0 rfl ?_
  refine at_const (x := 0) dx_169_1 rfl ?_
  refine at_aload dx_169_2 rfl ?_
  refine at_iload dx_169_3 rfl ?_
  refine at_iload dx_169_4 rfl ?_
  refine at_callWI dx_169_5 rfl lc_0 rfl (by decide +kernel) (p_paste rx rp hC) hM ?_
  intro x9 M9 rx9 C9 K9
  refine at_i2l dx_169_6 ?_
  refine at_astL dx_169_7 lc_883 ln_883 (by decide) (by decide) rx9 ?_
  refine at_goto dx_169_8 ?_
  refine at_const (x := 0) dx_169_15 rfl ?_
  refine at_iretI dx_169_16 (by decide) ?_
  exact ⟨CI_fr C9 (fr_um (show hi 883 by decide)), MI_fx K9 (fr_um (Or.inr rfl))⟩

set_option maxRecDepth 100000 in
set_option maxHeartbeats 4000000 in
theorem l_takeBack {X : scr} {M : mem} {x : Int} (rx : inR x) (hC : CI M) (hM : MI M) : At X 1 170 0 [vr 0, vi x, vr 883] [] M (qCM) := by
  refine at_aload dx_170_0 rfl ?_
  refine at_const (x := 0) dx_170_1 rfl ?_
  refine at_aload dx_170_2 rfl ?_
  refine at_iload dx_170_3 rfl ?_
  refine at_callWI dx_170_4 rfl lc_0 rfl (by decide +kernel) (p_takeBack rx hC) hM ?_
  intro x9 M9 rx9 C9 K9
  refine at_i2l dx_170_5 ?_
  refine at_astL dx_170_6 lc_883 ln_883 (by decide) (by decide) rx9 ?_
  refine at_goto dx_170_7 ?_
  refine at_const (x := 0) dx_170_14 rfl ?_
  refine at_iretI dx_170_15 (by decide) ?_
  exact ⟨CI_fr C9 (fr_um (show hi 883 by decide)), MI_fx K9 (fr_um (Or.inr rfl))⟩

set_option maxRecDepth 100000 in
set_option maxHeartbeats 4000000 in
theorem l_revert {X : scr} {M : mem} {x s : Int} (rx : inR x) (rs : inR s) (hC : CI M) (hM : MI M) : At X 1 171 0 [vr 0, vi x, vi s, vr 883] [] M (qCM) := by
  refine at_aload dx_171_0 rfl ?_
  refine at_const (x := 0) dx_171_1 rfl ?_
  refine at_aload dx_171_2 rfl ?_
  refine at_iload dx_171_3 rfl ?_
  refine at_iload dx_171_4 rfl ?_
  refine at_callWI dx_171_5 rfl lc_0 rfl (by decide +kernel) (p_revert rx rs hC) hM ?_
  intro x9 M9 rx9 C9 K9
  refine at_i2l dx_171_6 ?_
  refine at_astL dx_171_7 lc_883 ln_883 (by decide) (by decide) rx9 ?_
  refine at_goto dx_171_8 ?_
  refine at_const (x := 0) dx_171_15 rfl ?_
  refine at_iretI dx_171_16 (by decide) ?_
  exact ⟨CI_fr C9 (fr_um (show hi 883 by decide)), MI_fx K9 (fr_um (Or.inr rfl))⟩

set_option maxRecDepth 100000 in
set_option maxHeartbeats 4000000 in
theorem l_send {X : scr} {M : mem} {x : Int} (rx : inR x) (hC : CI M) (hM : MI M) : At X 1 172 0 [vr 0, vi x, vr 883] [] M (qCM) := by
  refine at_aload dx_172_0 rfl ?_
  refine at_const (x := 0) dx_172_1 rfl ?_
  refine at_aload dx_172_2 rfl ?_
  refine at_iload dx_172_3 rfl ?_
  refine at_callWI dx_172_4 rfl lc_0 rfl (by decide +kernel) (p_send rx hC) hM ?_
  intro x9 M9 rx9 C9 K9
  refine at_i2l dx_172_5 ?_
  refine at_astL dx_172_6 lc_883 ln_883 (by decide) (by decide) rx9 ?_
  refine at_goto dx_172_7 ?_
  refine at_const (x := 0) dx_172_14 rfl ?_
  refine at_iretI dx_172_15 (by decide) ?_
  exact ⟨CI_fr C9 (fr_um (show hi 883 by decide)), MI_fx K9 (fr_um (Or.inr rfl))⟩

set_option maxRecDepth 100000 in
set_option maxHeartbeats 4000000 in
theorem l_receive {X : scr} {M : mem} {x : Int} (rx : inR x) (hC : CI M) (hM : MI M) : At X 1 173 0 [vr 0, vi x, vr 883] [] M (qCM) := by
  refine at_aload dx_173_0 rfl ?_
  refine at_const (x := 0) dx_173_1 rfl ?_
  refine at_aload dx_173_2 rfl ?_
  refine at_iload dx_173_3 rfl ?_
  refine at_callWI dx_173_4 rfl lc_0 rfl (by decide +kernel) (p_receive rx hC) hM ?_
  intro x9 M9 rx9 C9 K9
  refine at_i2l dx_173_5 ?_
  refine at_astL dx_173_6 lc_883 ln_883 (by decide) (by decide) rx9 ?_
  refine at_goto dx_173_7 ?_
  refine at_const (x := 0) dx_173_11 rfl ?_
  refine at_iretI dx_173_12 (by decide) ?_
  exact ⟨CI_fr C9 (fr_um (show hi 883 by decide)), MI_fx K9 (fr_um (Or.inr rfl))⟩

set_option maxRecDepth 100000 in
set_option maxHeartbeats 4000000 in
theorem l_lost {X : scr} {M : mem} {x : Int} (rx : inR x) (hC : CI M) (hM : MI M) : At X 1 174 0 [vr 0, vi x, vr 883] [] M (qCM) := by
  refine at_aload dx_174_0 rfl ?_
  refine at_const (x := 0) dx_174_1 rfl ?_
  refine at_aload dx_174_2 rfl ?_
  refine at_iload dx_174_3 rfl ?_
  refine at_callWI dx_174_4 rfl lc_0 rfl (by decide +kernel) (p_lost rx hC) hM ?_
  intro x9 M9 rx9 C9 K9
  refine at_i2l dx_174_5 ?_
  refine at_astL dx_174_6 lc_883 ln_883 (by decide) (by decide) rx9 ?_
  refine at_goto dx_174_7 ?_
  refine at_const (x := 0) dx_174_11 rfl ?_
  refine at_iretI dx_174_12 (by decide) ?_
  exact ⟨CI_fr C9 (fr_um (show hi 883 by decide)), MI_fx K9 (fr_um (Or.inr rfl))⟩

set_option maxRecDepth 100000 in
set_option maxHeartbeats 4000000 in
theorem l_version {X : scr} {M : mem} {x : Int} (rx : inR x) (hC : CI M) (hM : MI M) : At X 1 175 0 [vr 0, vi x, vr 883] [] M (qCM) := by
  refine at_aload dx_175_0 rfl ?_
  refine at_const (x := 0) dx_175_1 rfl ?_
  refine at_aload dx_175_2 rfl ?_
  refine at_iload dx_175_3 rfl ?_
  refine at_callWI dx_175_4 rfl lc_0 rfl (by decide +kernel) (p_version rx hC) hM ?_
  intro x9 M9 rx9 C9 K9
  refine at_i2l dx_175_5 ?_
  refine at_astL dx_175_6 lc_883 ln_883 (by decide) (by decide) rx9 ?_
  refine at_goto dx_175_7 ?_
  refine at_const (x := 0) dx_175_11 rfl ?_
  refine at_iretI dx_175_12 (by decide) ?_
  exact ⟨CI_fr C9 (fr_um (show hi 883 by decide)), MI_fx K9 (fr_um (Or.inr rfl))⟩

set_option maxRecDepth 100000 in
set_option maxHeartbeats 4000000 in
theorem l_size {X : scr} {M : mem} {x : Int} (rx : inR x) (hC : CI M) (hM : MI M) : At X 1 176 0 [vr 0, vi x, vr 883] [] M (qCM) := by
  refine at_aload dx_176_0 rfl ?_
  refine at_const (x := 0) dx_176_1 rfl ?_
  refine at_aload dx_176_2 rfl ?_
  refine at_iload dx_176_3 rfl ?_
  refine at_callWI dx_176_4 rfl lc_0 rfl (by decide +kernel) (p_size rx hC) hM ?_
  intro x9 M9 rx9 C9 K9
  refine at_i2l dx_176_5 ?_
  refine at_astL dx_176_6 lc_883 ln_883 (by decide) (by decide) rx9 ?_
  refine at_goto dx_176_7 ?_
  refine at_const (x := 0) dx_176_11 rfl ?_
  refine at_iretI dx_176_12 (by decide) ?_
  exact ⟨CI_fr C9 (fr_um (show hi 883 by decide)), MI_fx K9 (fr_um (Or.inr rfl))⟩

set_option maxRecDepth 100000 in
set_option maxHeartbeats 4000000 in
theorem l_token {X : scr} {M : mem} {x p : Int} (rx : inR x) (rp : inR p) (hC : CI M) (hM : MI M) : At X 1 177 0 [vr 0, vi x, vi p, vr 883] [] M (qCM) := by
  refine at_aload dx_177_0 rfl ?_
  refine at_const (x := 0) dx_177_1 rfl ?_
  refine at_aload dx_177_2 rfl ?_
  refine at_iload dx_177_3 rfl ?_
  refine at_iload dx_177_4 rfl ?_
  refine at_callWI dx_177_5 rfl lc_0 rfl (by decide +kernel) (p_token rx rp hC) hM ?_
  intro x9 M9 rx9 C9 K9
  refine at_i2l dx_177_6 ?_
  refine at_astL dx_177_7 lc_883 ln_883 (by decide) (by decide) rx9 ?_
  refine at_goto dx_177_8 ?_
  refine at_const (x := 0) dx_177_12 rfl ?_
  refine at_iretI dx_177_13 (by decide) ?_
  exact ⟨CI_fr C9 (fr_um (show hi 883 by decide)), MI_fx K9 (fr_um (Or.inr rfl))⟩

set_option maxRecDepth 100000 in
set_option maxHeartbeats 4000000 in
theorem l_around {X : scr} {M : mem} {x p : Int} (rx : inR x) (rp : inR p) (hC : CI M) (hM : MI M) : At X 1 178 0 [vr 0, vi x, vi p, vr 883] [] M (qCM) := by
  refine at_aload dx_178_0 rfl ?_
  refine at_const (x := 0) dx_178_1 rfl ?_
  refine at_aload dx_178_2 rfl ?_
  refine at_iload dx_178_3 rfl ?_
  refine at_iload dx_178_4 rfl ?_
  refine at_callWI dx_178_5 rfl lc_0 rfl (by decide +kernel) (p_around rx rp hC) hM ?_
  intro x9 M9 rx9 C9 K9
  refine at_i2l dx_178_6 ?_
  refine at_astL dx_178_7 lc_883 ln_883 (by decide) (by decide) rx9 ?_
  refine at_goto dx_178_8 ?_
  refine at_const (x := 0) dx_178_12 rfl ?_
  refine at_iretI dx_178_13 (by decide) ?_
  exact ⟨CI_fr C9 (fr_um (show hi 883 by decide)), MI_fx K9 (fr_um (Or.inr rfl))⟩

set_option maxRecDepth 100000 in
set_option maxHeartbeats 4000000 in
theorem l_comment {X : scr} {M : mem} {f t : Int} (rf : inR f) (rt : inR t) (hC : CI M) (hM : MI M) : At X 1 179 0 [vr 0, vi f, vi t, vr 883] [] M (qCM) := by
  refine at_aload dx_179_0 rfl ?_
  refine at_const (x := 0) dx_179_1 rfl ?_
  refine at_aload dx_179_2 rfl ?_
  refine at_iload dx_179_3 rfl ?_
  refine at_iload dx_179_4 rfl ?_
  refine at_callWI dx_179_5 rfl lc_0 rfl (by decide +kernel) (p_comment rf rt hC) hM ?_
  intro x9 M9 rx9 C9 K9
  refine at_i2l dx_179_6 ?_
  refine at_astL dx_179_7 lc_883 ln_883 (by decide) (by decide) rx9 ?_
  refine at_goto dx_179_8 ?_
  refine at_const (x := 0) dx_179_18 rfl ?_
  refine at_iretI dx_179_19 (by decide) ?_
  exact ⟨CI_fr C9 (fr_um (show hi 883 by decide)), MI_fx K9 (fr_um (Or.inr rfl))⟩

set_option maxRecDepth 100000 in
set_option maxHeartbeats 4000000 in
theorem l_commentAt {X : scr} {M : mem} {x : Int} (rx : inR x) (hC : CI M) (hM : MI M) : At X 1 180 0 [vr 0, vi x, vr 883] [] M (qCM) := by
  refine at_aload dx_180_0 rfl ?_
  refine at_const (x := 0) dx_180_1 rfl ?_
  refine at_aload dx_180_2 rfl ?_
  refine at_iload dx_180_3 rfl ?_
  refine at_callWI dx_180_4 rfl lc_0 rfl (by decide +kernel) (p_commentAt rx hC) hM ?_
  intro x9 M9 rx9 C9 K9
  refine at_i2l dx_180_5 ?_
  refine at_astL dx_180_6 lc_883 ln_883 (by decide) (by decide) rx9 ?_
  refine at_goto dx_180_7 ?_
  refine at_const (x := 0) dx_180_11 rfl ?_
  refine at_iretI dx_180_12 (by decide) ?_
  exact ⟨CI_fr C9 (fr_um (show hi 883 by decide)), MI_fx K9 (fr_um (Or.inr rfl))⟩

set_option maxRecDepth 100000 in
set_option maxHeartbeats 4000000 in
theorem l_rule {X : scr} {M : mem} {t e a b : Int} (rt : inR t) (re : inR e) (ra : inR a) (rb : inR b) (hC : CI M) (hM : MI M) : At X 1 159 0 [vr 0, vi t, vi e, vi a, vi b] [] M (qCM) := by
  refine at_aload dx_159_0 rfl ?_
  refine at_iload dx_159_1 rfl ?_
  refine at_iload dx_159_2 rfl ?_
  refine at_iload dx_159_3 rfl ?_
  refine at_iload dx_159_4 rfl ?_
  refine at_callWV dx_159_5 rfl lc_0 rfl (by decide +kernel) (p_rule rt re ra rb hC) hM ?_
  intro M9 C9 K9
  refine at_goto dx_159_6 ?_
  refine at_const (x := 0) dx_159_16 rfl ?_
  refine at_iretI dx_159_17 (by decide) ?_
  exact ⟨C9, K9⟩
