/-! ===== fields, arrays, calls ===== -/
section ME
variable {X : scr} {w m i q a b c n : Nat} {ls r : List (sx_V Int)} {st : List (sx_V Int)} {M : mem} {Q : Nat → sx_V Int → mem → Prop} {x y : Int} {k : Nat}
theorem hp_obj {h : sx_H Int} (hM : hp_R M h) (hk : ly_c k = c) (hc : c ≤ 7) (hb : b < (sx_nff c).length) : ∃ fs, sx_hg h k = some (.inl (c, fs)) ∧ fs[b]? = some (ly_v k b (M k b)) ∧ fs = (List.range (ly_n k)).map (fun j : Nat => ly_v k j (M k j)) := by
  subst hk
  refine ⟨_, hM.1 k hc, ?_, rfl⟩
  rw [List.getElem?_map, List.getElem?_range (by rw [ly_n7 hc]; exact hb)]
  rfl
theorem ly_vI {j : Int} (h : ly_k (ly_c k) j.toNat ≤ 1) : ly_v k j x = vi x := by
  unfold ly_v
  rcases (show ly_k (ly_c k) j.toNat = 0 ∨ ly_k (ly_c k) j.toNat = 1 by omega) with h | h <;> rw [h] <;> rfl
theorem ly_vR {j : Int} (h : ly_k (ly_c k) j.toNat = 2) : ly_v k j x = vr (ly_t k j) := by
  unfold ly_v
  rw [h]
  rfl
theorem ly_vL {j : Int} (h : ly_k (ly_c k) j.toNat = 3) : ly_v k j x = vl x := by
  unfold ly_v
  rw [h]
  rfl
theorem ly_vS {j : Int} (h : ly_k (ly_c k) j.toNat = 4) : ly_v k j x = cond (decide (x < 0)) none (vr x.toNat) := by
  unfold ly_v
  rw [h]
  rfl
theorem at_getI (bi : Int) (hd : cdx m i = (1, (c, b))) (hk : ly_c k = c) (hf : (Nat.ble c 7 && (Nat.ble (b + 1) (sx_nff c).length && Nat.ble (ly_k c b) 1)) = true) (hb : (b : Int) = bi) (K : inR (M k bi) → At X w m (i + 1) ls (vi (M k bi) :: st) M Q) : At X w m i ls (vr k :: st) M Q := fun lx h hl hM => by
  obtain ⟨h1, h2⟩ := sx_a2 hf
  obtain ⟨h2, h3⟩ := sx_a2 h2
  have hc := Nat.le_of_ble_eq_true h1
  obtain ⟨fs, e1, e2, -⟩ := hp_obj (b := b) hM hk hc (Nat.le_of_ble_eq_true h2)
  rw [ly_vI (by subst hk; exact Nat.le_of_ble_eq_true h3), hb] at e2
  exact ou_next hd (by decide) (fun call go c9 => by
    show sh_get go c b _ lx (vr k :: st) h = _
    unfold sh_get
    have e9 : Nat.beq c (Nat.mod c 16) = true := by
      have e8 : Nat.mod c 16 = c := Nat.mod_eq_of_lt (by omega)
      rw [e8]
      exact Nat.beq_refl c
    simp only [e1, e2, e9, cond_true]) rfl rfl (K (hM.2.2.2.2 k bi) lx h hl hM)
theorem at_getR {t : Nat} (hd : cdx m i = (1, (c, b))) (hk : ly_c k = c) (hf : (Nat.ble c 7 && (Nat.ble (b + 1) (sx_nff c).length && Nat.beq (ly_k c b) 2)) = true) (ht : ly_t k b = t) (K : At X w m (i + 1) ls (vr t :: st) M Q) : At X w m i ls (vr k :: st) M Q := fun lx h hl hM => by
  obtain ⟨h1, h2⟩ := sx_a2 hf
  obtain ⟨h2, h3⟩ := sx_a2 h2
  have hc := Nat.le_of_ble_eq_true h1
  obtain ⟨fs, e1, e2, -⟩ := hp_obj (b := b) hM hk hc (Nat.le_of_ble_eq_true h2)
  rw [ly_vR (by subst hk; exact Nat.eq_of_beq_eq_true h3), ht] at e2
  exact ou_next hd (by decide) (fun call go c9 => by
    show sh_get go c b _ lx (vr k :: st) h = _
    unfold sh_get
    have e9 : Nat.beq c (Nat.mod c 16) = true := by
      have e8 : Nat.mod c 16 = c := Nat.mod_eq_of_lt (by omega)
      rw [e8]
      exact Nat.beq_refl c
    simp only [e1, e2, e9, cond_true]) rfl rfl (K lx h hl hM)
theorem um_R {M : mem} {k : Nat} {j v : Int} (h : ∀ (k : Nat) (j : Int), inR (M k j)) (hv : inR v) (k' : Nat) (j' : Int) : inR (um M k j v k' j') := by
  unfold um
  split
  · exact hv
  · exact h k' j'
theorem hp_set_obj {h : sx_H Int} (hM : hp_R M h) (hk : ly_c k = c) (hc : c ≤ 7) (hb : b < (sx_nff c).length) (hf : ly_k c b ≤ 1) (hz : ly_k c b = 1 → x = 0 ∨ x = 1) (hr : inR x) {fs : List (sx_V Int)} (e1 : sx_hg h k = some (.inl (c, fs))) (e3 : fs = (List.range (ly_n k)).map (fun j : Nat => ly_v k j (M k j))) : hp_R (um M k b x) (sx_hs h k (.inl (c, fs.set b (vi x)))) := by
  subst hk
  refine ⟨fun k' h7 => ?_, fun k' h8 h13 => ?_, fun k' j hj => ?_, fun k' j hj h0 => ?_, fun k' j => um_R hM.2.2.2.2 hr k' j⟩
  · by_cases e : k' = k
    · subst e
      rw [sx_hg_hs _ e1, e3]
      congr 2
      congr 1
      apply List.ext_getElem?
      intro j
      by_cases hj : j = b
      · subst hj
        rw [List.getElem?_set_self (by simp [ly_n7 hc]; exact hb), List.getElem?_map, List.getElem?_range (by rw [ly_n7 hc]; exact hb)]
        show some (vi x) = some (ly_v k' j (um M k' j x k' j))
        rw [um_eq, ly_vI (j := (j : Int)) hf]
      · rw [List.getElem?_set_ne (fun e => hj e.symm), List.getElem?_map, List.getElem?_map]
        cases hr : (List.range (ly_n k'))[j]? with
        | none => rfl
        | some j' =>
          have hj' : j' = j := by
            obtain ⟨h1, h2⟩ := List.getElem?_eq_some_iff.mp hr
            rw [← h2]
            exact List.getElem_range _
          subst hj'
          show some (ly_v k' j' (M k' j')) = some (ly_v k' j' (um M k' b x k' j'))
          rw [um_j (by omega)]
    · rw [sx_hg_hs_ne _ e, hM.1 k' h7]
      congr 2
      congr 1
      apply List.map_congr_left
      intro j _
      rw [um_k e]
  · have e : k' ≠ k := fun e => by subst e; omega
    obtain ⟨tr, h1, h2⟩ := hM.2.1 k' h8 h13
    exact ⟨tr, by rw [sx_hg_hs_ne _ e, h1], fun j hj => by rw [h2 j hj, um_k e]⟩
  · by_cases e : k' = k
    · subst e
      by_cases e2 : j = b
      · subst e2
        rw [um_eq]
        exact hz hj
      · rw [um_j (by omega)]
        exact hM.2.2.1 k' j hj
    · rw [um_k e]
      exact hM.2.2.1 k' j hj
  · have e : k' ≠ k := fun e => by subst e; omega
    rw [um_k e] at h0 ⊢
    exact hM.2.2.2.1 k' j hj h0
theorem at_put9 {op : Nat} (ho : op = 12 ∨ op = 30) (bi : Int) (hd : cdx m i = (op, (a, b))) (hk : ly_c k = Nat.mod a 16) (hf : (Nat.ble (Nat.mod a 16) 7 && (Nat.ble (b + 1) (sx_nff (Nat.mod a 16)).length && (Nat.beq (ly_k (Nat.mod a 16) b) (Nat.div a 16) && Nat.ble (Nat.div a 16) 1))) = true) (hb : (b : Int) = bi) (hz : Nat.div a 16 = 1 → x = 0 ∨ x = 1) (hr : inR x) (K : At X w m (i + 1) ls st (um M k bi x) Q) : At X w m i ls (vi x :: vr k :: st) M Q := fun lx h hl hM => by
  obtain ⟨h1, h2⟩ := sx_a2 hf
  obtain ⟨h2, h3⟩ := sx_a2 h2
  obtain ⟨h3, h4⟩ := sx_a2 h3
  have hc := Nat.le_of_ble_eq_true h1
  have h5 := Nat.le_of_ble_eq_true h4
  have h6 := Nat.eq_of_beq_eq_true h3
  obtain ⟨fs, e1, e2, e3⟩ := hp_obj (b := b) hM hk hc (Nat.le_of_ble_eq_true h2)
  have hM2 := hp_set_obj (x := x) hM hk hc (Nat.le_of_ble_eq_true h2) (by omega) (fun e => hz (by omega)) hr e1 e3
  rw [hb] at hM2
  have hlen : Nat.ble (b + 1) fs.length = true := by
    rw [e3, List.length_map, List.length_range, ly_n7 (by rw [hk]; exact hc), hk]
    exact h2
  have hfit : sx_fit (oI X) (Nat.div a 16) (vi x) = true := by
    rcases (show Nat.div a 16 = 0 ∨ Nat.div a 16 = 1 by omega) with e | e
    · rw [e]; rfl
    · rw [e]
      rcases hz e with rfl | rfl <;> rfl
  have hmm : Nat.mod (Nat.mod a 16) 16 = Nat.mod a 16 := Nat.mod_mod a 16
  exact ou_next (h' := sx_hs h k (.inl (Nat.mod a 16, fs.set b (vi x)))) hd (by rcases ho with rfl | rfl <;> decide) (fun call go c9 => by
    have e9 : sh_put (oI X) go a b ((sx_cd m).drop (i + 1)) lx (vi x :: vr k :: st) h = go ((sx_cd m).drop (i + 1)) lx st (sx_hs h k (.inl (Nat.mod a 16, fs.set b (vi x)))) := by
      unfold sh_put
      simp only [e1, Nat.beq_refl, hlen, hfit, Bool.and_self, cond_true]
    rcases ho with rfl | rfl
    · exact e9
    · exact e9) rfl rfl (K lx _ hl hM2)
theorem at_putI (bi : Int) (hd : cdx m i = (12, (a, b))) (hk : ly_c k = Nat.mod a 16) (hf : (Nat.ble (Nat.mod a 16) 7 && (Nat.ble (b + 1) (sx_nff (Nat.mod a 16)).length && (Nat.beq (ly_k (Nat.mod a 16) b) (Nat.div a 16) && Nat.beq (Nat.div a 16) 0))) = true) (hb : (b : Int) = bi) (hr : inR x) (K : At X w m (i + 1) ls st (um M k bi x) Q) : At X w m i ls (vi x :: vr k :: st) M Q := by
  obtain ⟨h1, h2⟩ := sx_a2 hf
  obtain ⟨h2, h3⟩ := sx_a2 h2
  obtain ⟨h3, h4⟩ := sx_a2 h3
  have h5 := Nat.eq_of_beq_eq_true h4
  refine at_put9 (Or.inl rfl) bi hd hk ?_ hb (fun e => absurd (h5.symm.trans e) (by decide)) hr K
  rw [h1, h2, h3, h5]
  rfl
theorem at_putZ (bi : Int) (hd : cdx m i = (12, (a, b))) (hk : ly_c k = Nat.mod a 16) (hf : (Nat.ble (Nat.mod a 16) 7 && (Nat.ble (b + 1) (sx_nff (Nat.mod a 16)).length && (Nat.beq (ly_k (Nat.mod a 16) b) (Nat.div a 16) && Nat.ble (Nat.div a 16) 1))) = true) (hb : (b : Int) = bi) (hz : x = 0 ∨ x = 1) (K : At X w m (i + 1) ls st (um M k bi x) Q) : At X w m i ls (vi x :: vr k :: st) M Q :=
  at_put9 (Or.inl rfl) bi hd hk hf hb (fun _ => hz) (by rcases hz with rfl | rfl <;> decide) K
/-! ===== arrays ===== -/
theorem wr_ix {N : Nat} (h0 : 0 ≤ x) (h1 : x < N) (hN : N ≤ 8192) : sx_ix (oI X) x N = some x.toNat := by
  unfold sx_ix
  have h2 : ii_val x = some x.toNat := ii_val_of (by rw [wr_eq (by omega) (by omega)]; omega)
  show (match ii_val x with
    | some k => cond (Nat.ble (k + 1) N && Nat.ble (k + 1) 8192) (some k) none
    | none => none) = _
  rw [h2]
  show cond (Nat.ble (x.toNat + 1) N && Nat.ble (x.toNat + 1) 8192) (some x.toNat) none = _
  rw [Nat.ble_eq_true_of_le (show x.toNat + 1 ≤ N by omega), Nat.ble_eq_true_of_le (show x.toNat + 1 ≤ 8192 by omega)]
  rfl
theorem hp_arr {h : sx_H Int} {N : Nat} (hM : hp_R M h) (hk : ly_c k = c) (hc : 8 ≤ c) (hc2 : c ≤ 13) (hn : ly_n k = N) (h0 : 0 ≤ x) (h1 : x < N) : ∃ tr, sx_hg h k = some (.inr (ly_a c, (N, tr))) ∧ sx_tg 13 tr x.toNat = some (ly_v k x (M k x)) ∧ ∀ j : Nat, j < N → sx_tg 13 tr j = some (ly_v k j (M k j)) := by
  subst hk
  subst hn
  obtain ⟨tr, e1, e2⟩ := hM.2.1 k hc hc2
  refine ⟨tr, e1, ?_, e2⟩
  have h3 := e2 x.toNat (by omega)
  rw [Int.toNat_of_nonneg h0] at h3
  exact h3
theorem at_ald9 {N : Nat} {v : sx_V Int} (hd : cdx m i = (6, (a, b))) (hk : ly_c k = c) (hc : 8 ≤ c) (hc2 : c ≤ 13) (ha : ly_a c = a) (hn : ly_n k = N) (h0 : 0 ≤ x) (h1 : x < N) (hv : ly_v k x (M k x) = v) (K : At X w m (i + 1) ls (v :: st) M Q) : At X w m i ls (vi x :: vr k :: st) M Q := fun lx h hl hM => by
  obtain ⟨tr, e1, e2, -⟩ := hp_arr hM hk hc hc2 hn h0 h1
  rw [hv] at e2
  have hN : N ≤ 8192 := by
    have := ly_n8 (k := k) (by omega) (by omega)
    omega
  subst ha
  exact ou_next hd (by decide) (fun call go c9 => by
    show sh_ald (oI X) go (ly_a c) _ lx (vi x :: vr k :: st) h = _
    unfold sh_ald
    simp only [e1, e2, Nat.beq_refl, cond_true, wr_ix h0 h1 hN]) rfl rfl (K lx h hl hM)
theorem at_aldI {N : Nat} (hd : cdx m i = (6, (0, b))) (hk : ly_c k = 8) (hn : ly_n k = N) (h0 : 0 ≤ x) (h1 : x < N) (K : inR (M k x) → At X w m (i + 1) ls (vi (M k x) :: st) M Q) : At X w m i ls (vi x :: vr k :: st) M Q :=
  at_ald9 hd hk (by decide) (by decide) rfl hn h0 h1 (ly_vI (by rw [hk]; exact Nat.zero_le _)) (fun lx h hl hM => K (hM.2.2.2.2 k x) lx h hl hM)
theorem at_aldZ {N : Nat} (hd : cdx m i = (6, (1, b))) (hk : ly_c k = 9) (hn : ly_n k = N) (h0 : 0 ≤ x) (h1 : x < N) (K : inR (M k x) → At X w m (i + 1) ls (vi (M k x) :: st) M Q) : At X w m i ls (vi x :: vr k :: st) M Q :=
  at_ald9 hd hk (by decide) (by decide) rfl hn h0 h1 (ly_vI (by rw [hk]; exact Nat.le_refl _)) (fun lx h hl hM => K (hM.2.2.2.2 k x) lx h hl hM)
theorem at_aldS {N : Nat} {t : Nat} (hd : cdx m i = (6, (3, b))) (hk : ly_c k = 11) (hn : ly_n k = N) (h0 : 0 ≤ x) (h1 : x < N) (ht : ly_t k x = t) (K : At X w m (i + 1) ls (vr t :: st) M Q) : At X w m i ls (vi x :: vr k :: st) M Q :=
  at_ald9 hd hk (by decide) (by decide) rfl hn h0 h1 (by rw [ly_vR (by rw [hk]; rfl), ht]) K
theorem at_aldC {N : Nat} {t : Nat} (hd : cdx m i = (6, (4, b))) (hk : ly_c k = 12) (hn : ly_n k = N) (h0 : 0 ≤ x) (h1 : x < N) (ht : ly_t k x = t) (K : At X w m (i + 1) ls (vr t :: st) M Q) : At X w m i ls (vi x :: vr k :: st) M Q :=
  at_ald9 hd hk (by decide) (by decide) rfl hn h0 h1 (by rw [ly_vR (by rw [hk]; rfl), ht]) K
theorem at_aldD {N : Nat} (hd : cdx m i = (6, (3, b))) (hk : ly_c k = 13) (hn : ly_n k = N) (h0 : 0 ≤ x) (h1 : x < N) (K1 : M k x < 0 → At X w m (i + 1) ls (none :: st) M Q) (K2 : 0 ≤ M k x → ly_c (M k x).toNat = 4 → At X w m (i + 1) ls (vr (M k x).toNat :: st) M Q) : At X w m i ls (vi x :: vr k :: st) M Q := by
  have hv : ly_v k x (M k x) = cond (decide (M k x < 0)) none (vr (M k x).toNat) := ly_vS (by rw [hk]; rfl)
  by_cases hx : M k x < 0
  · rw [decide_eq_true hx] at hv
    exact at_ald9 hd hk (by decide) (by decide) rfl hn h0 h1 hv (K1 hx)
  · rw [decide_eq_false hx] at hv
    intro lx h hl hM
    have h3 := hM.2.2.2.1 k x.toNat hk
    rw [Int.toNat_of_nonneg h0] at h3
    exact at_ald9 hd hk (by decide) (by decide) rfl hn h0 h1 hv (K2 (Int.not_lt.mp hx) (h3 (Int.not_lt.mp hx))) lx h hl hM
theorem hp_set_arr {h : sx_H Int} {N : Nat} {v : sx_V Int} {y : Int} (hM : hp_R M h) (hk : ly_c k = c) (hc : 8 ≤ c) (hc2 : c ≤ 13) (hn : ly_n k = N) (h0 : 0 ≤ x) (h1 : x < N) (hv : ly_v k x y = v) (hz : c = 9 → y = 0 ∨ y = 1) (hs : c = 13 → 0 ≤ y → ly_c y.toNat = 4) (hr : inR y) {tr : sx_T (sx_V Int) 13} (e1 : sx_hg h k = some (.inr (ly_a c, (N, tr)))) (e3 : ∀ j : Nat, j < N → sx_tg 13 tr j = some (ly_v k j (M k j))) : hp_R (um M k x y) (sx_hs h k (.inr (ly_a c, (N, sx_ts 13 tr x.toNat v)))) := by
  subst hk
  subst hn
  have hx : ((x.toNat : Nat) : Int) = x := Int.toNat_of_nonneg h0
  refine ⟨fun k' h7 => ?_, fun k' h8 h13 => ?_, fun k' j hj => ?_, fun k' j hj h0' => ?_, fun k' j => um_R hM.2.2.2.2 hr k' j⟩
  · have e : k' ≠ k := fun e => by subst e; omega
    rw [sx_hg_hs_ne _ e, hM.1 k' h7]
    congr 2
    congr 1
    apply List.map_congr_left
    intro j _
    rw [um_k e]
  · by_cases e : k' = k
    · subst e
      refine ⟨_, sx_hg_hs _ e1, fun j hj => ?_⟩
      by_cases e2 : j = x.toNat
      · subst e2
        rw [sx_tg_same 13 tr x.toNat _ v (e3 _ hj), hx, um_eq, hv]
      · rw [sx_tg_ne 13 tr x.toNat j v e2, e3 j hj, um_j (by omega)]
    · obtain ⟨tr', h1', h2'⟩ := hM.2.1 k' h8 h13
      exact ⟨tr', by rw [sx_hg_hs_ne _ e, h1'], fun j hj => by rw [h2' j hj, um_k e]⟩
  · by_cases e : k' = k
    · subst e
      by_cases e2 : (j : Int) = x
      · subst e2
        rw [um_eq]
        refine hz ?_
        rcases (show ly_c k' = 8 ∨ ly_c k' = 9 ∨ ly_c k' = 10 ∨ ly_c k' = 11 ∨ ly_c k' = 12 ∨ ly_c k' = 13 by omega) with e | e | e | e | e | e
        · rw [e] at hj; exact absurd (show (0 : Nat) = 1 from hj) (by decide)
        · exact e
        · rw [e] at hj; exact absurd (show (3 : Nat) = 1 from hj) (by decide)
        · rw [e] at hj; exact absurd (show (2 : Nat) = 1 from hj) (by decide)
        · rw [e] at hj; exact absurd (show (2 : Nat) = 1 from hj) (by decide)
        · rw [e] at hj; exact absurd (show (4 : Nat) = 1 from hj) (by decide)
      · rw [um_j e2]
        exact hM.2.2.1 k' j hj
    · rw [um_k e]
      exact hM.2.2.1 k' j hj
  · by_cases e : k' = k
    · subst e
      by_cases e2 : (j : Int) = x
      · subst e2
        rw [um_eq] at h0' ⊢
        exact hs hj h0'
      · rw [um_j e2] at h0' ⊢
        exact hM.2.2.2.1 k' j hj h0'
    · rw [um_k e] at h0' ⊢
      exact hM.2.2.2.1 k' j hj h0'
theorem at_ast9 {N : Nat} {v : sx_V Int} {y : Int} (hd : cdx m i = (15, (a, b))) (hk : ly_c k = c) (hc : 8 ≤ c) (hc2 : c ≤ 13) (ha : ly_a c = a) (hn : ly_n k = N) (h0 : 0 ≤ x) (h1 : x < N) (hv : ly_v k x y = v) (hz : c = 9 → y = 0 ∨ y = 1) (hs : c = 13 → 0 ≤ y → ly_c y.toNat = 4) (hfit : ∀ h : sx_H Int, hp_R M h → sx_afit (oI X) h a v = true) (hr : inR y) (K : At X w m (i + 1) ls st (um M k x y) Q) : At X w m i ls (v :: vi x :: vr k :: st) M Q := fun lx h hl hM => by
  obtain ⟨tr, e1, e2, e3⟩ := hp_arr hM hk hc hc2 hn h0 h1
  have hN : N ≤ 8192 := by
    have := ly_n8 (k := k) (by omega) (by omega)
    omega
  have hM2 := hp_set_arr hM hk hc hc2 hn h0 h1 hv hz hs hr e1 e3
  have hf := hfit h hM
  subst ha
  exact ou_next (h' := sx_hs h k (.inr (ly_a c, (N, sx_ts 13 tr x.toNat v)))) hd (by decide) (fun call go c9 => by
    show sh_ast (oI X) go (ly_a c) _ lx (v :: vi x :: vr k :: st) h = _
    unfold sh_ast
    simp only [e1, e2, Nat.beq_refl, hf, Bool.and_self, cond_true, wr_ix h0 h1 hN]) rfl rfl (K lx _ hl hM2)
theorem at_astI {N : Nat} (hd : cdx m i = (15, (0, b))) (hk : ly_c k = 8) (hn : ly_n k = N) (h0 : 0 ≤ x) (h1 : x < N) (hr : inR y) (K : At X w m (i + 1) ls st (um M k x y) Q) : At X w m i ls (vi y :: vi x :: vr k :: st) M Q :=
  at_ast9 hd hk (by decide) (by decide) rfl hn h0 h1 (ly_vI (by rw [hk]; exact Nat.zero_le _)) (fun e => absurd e (by decide)) (fun e => absurd e (by decide)) (fun _ _ => rfl) hr K
theorem at_astZ {N : Nat} (hd : cdx m i = (15, (1, b))) (hk : ly_c k = 9) (hn : ly_n k = N) (h0 : 0 ≤ x) (h1 : x < N) (hy : y = 0 ∨ y = 1) (K : At X w m (i + 1) ls st (um M k x y) Q) : At X w m i ls (vi y :: vi x :: vr k :: st) M Q :=
  at_ast9 hd hk (by decide) (by decide) rfl hn h0 h1 (ly_vI (by rw [hk]; exact Nat.le_refl _)) (fun _ => hy) (fun e => absurd e (by decide)) (fun _ _ => by rcases hy with rfl | rfl <;> rfl) (by rcases hy with rfl | rfl <;> decide) K
theorem at_astL {N : Nat} (hd : cdx m i = (15, (2, b))) (hk : ly_c k = 10) (hn : ly_n k = N) (h0 : 0 ≤ x) (h1 : x < N) (hr : inR y) (K : At X w m (i + 1) ls st (um M k x y) Q) : At X w m i ls (vl y :: vi x :: vr k :: st) M Q :=
  at_ast9 hd hk (by decide) (by decide) rfl hn h0 h1 (ly_vL (by rw [hk]; rfl)) (fun e => absurd e (by decide)) (fun e => absurd e (by decide)) (fun _ _ => rfl) hr K
theorem at_astD {N t : Nat} (hd : cdx m i = (15, (3, b))) (hk : ly_c k = 13) (hn : ly_n k = N) (h0 : 0 ≤ x) (h1 : x < N) (ht : ly_c t = 4) (K : At X w m (i + 1) ls st (um M k x t) Q) : At X w m i ls (vr t :: vi x :: vr k :: st) M Q :=
  at_ast9 (y := (t : Int)) hd hk (by decide) (by decide) rfl hn h0 h1 (by
    rw [ly_vS (by rw [hk]; rfl), decide_eq_false (by omega)]
    rfl) (fun e => absurd e (by decide)) (fun _ _ => ht) (fun h hM => by
    have e1 := hM.1 t (by omega)
    rw [ht] at e1
    unfold sx_afit
    simp only [e1]
    rfl) (by have := ly_big (k := t) (by omega); constructor <;> omega) K
theorem at_alen {N : Nat} (hd : cdx m i = (24, (a, b))) (hk : ly_c k = c) (hc : (Nat.ble 8 c && Nat.ble c 13) = true) (hn : ly_n k = N) (K : At X w m (i + 1) ls (vi (N : Int) :: st) M Q) : At X w m i ls (vr k :: st) M Q := fun lx h hl hM => by
  obtain ⟨h1, h2⟩ := sx_a2 hc
  have h8 := Nat.le_of_ble_eq_true h1
  have h13 := Nat.le_of_ble_eq_true h2
  subst hk
  subst hn
  obtain ⟨tr, e1, -⟩ := hM.2.1 k h8 h13
  have hN := ly_n8 h8 h13
  exact ou_next hd (by decide) (fun call go c9 => by
    show sh_alen (oI X) go ((sx_cd m).drop (i + 1)) lx (vr k :: st) h = _
    unfold sh_alen
    have e2 : ii_k (ly_n k) = (ly_n k : Int) := by
      unfold ii_k
      rw [Nat.ble_eq_true_of_le (show ly_n k ≤ 2147483647 by omega)]
      rfl
    simp only [e1]
    show go ((sx_cd m).drop (i + 1)) lx (vi (ii_k (ly_n k)) :: st) h = _
    rw [e2]) rfl rfl (K lx h hl hM)
/-! ===== calls ===== -/
noncomputable def qI (P : Int → mem → Prop) : Nat → sx_V Int → mem → Prop := fun t v M => t = 1 ∧ ∃ x, v = vi x ∧ inR x ∧ P x M
noncomputable def qV (P : mem → Prop) : Nat → sx_V Int → mem → Prop := fun t v M => t = 0 ∧ v = none ∧ P M
noncomputable def qR (P : Nat → mem → Prop) : Nat → sx_V Int → mem → Prop := fun t v M => t = 1 ∧ ∃ k, v = vr k ∧ P k M
noncomputable def qT (Q : Nat → sx_V Int → mem → Prop) (E : Nat → mem → Prop) : Nat → sx_V Int → mem → Prop := fun t v M => Q t v M ∨ ∃ e, t = e + 2 ∧ v = none ∧ E e M
theorem at_call9 {as : List (sx_V Int)} {mid : Nat} {r : List (sx_V Int)} {Qc : Nat → sx_V Int → mem → Prop} (hd : cdx m i = (q, (a, b))) (hq : q ≠ 99) (hn : sx_n2 as = true)
    (h1 : ∀ h : sx_H Int, hp_R M h → ∀ (call : sx_K Int) (go : sx_G Int) (c : Nat) (lx : sx_L Int), sx_hd q (oI X) call go (sx_cd m) a b c ((sx_cd m).drop (i + 1)) lx st h = sx_bk go ((sx_cd m).drop (i + 1)) lx r (call mid as h))
    (C : At X 0 mid 0 as [] M Qc) (K0 : ∀ v M', Qc 0 v M' → At X w m (i + 1) ls r M' Q) (K1 : ∀ v M', Qc 1 v M' → At X w m (i + 1) ls (v :: r) M' Q) (K2 : ∀ e v M', Qc (e + 2) v M' → Q (e + 2) none M') : At X w m i ls st M Q := fun lx h hl hM => by
  obtain ⟨x, e1, rfl, rfl, rfl⟩ := cdx_ok hd hq
  obtain ⟨n0, out, c1, M1, c2, c3, c4, c5⟩ := C (sx_args 0 as) h (lsR_entry hn) hM
  obtain ⟨⟨t, v⟩, h'⟩ := out
  have hcall : ∀ n, n0 ≤ n → sx_ca sx_cd (sx_run sx_cd (oI X) n) mid as h = some ((t, v), h') := c1
  match t, hcall, c2, c3, c4, c5 with
  | 0, hcall, c2, c3, c4, c5 =>
    obtain ⟨n1, out, k1, M2, k2, k3, k4, k5⟩ := K0 v M1 c5 lx h' hl c2
    refine ⟨max n0 n1 + 1, out, fun n hn => ?_, M2, k2, ?_, ?_, k5⟩
    · obtain ⟨n, rfl⟩ : ∃ n', n = n' + 1 := ⟨n - 1, by omega⟩
      rw [e1, run_row, h1 h hM, hcall n (by omega)]
      exact k1 n (by omega)
    · have c3' : h'.2.2.1 ≤ h.2.2.1 + 0 := c3
      omega
    · have c4' : h'.2.2.2.1 ≤ h.2.2.2.1 + 0 := c4
      omega
  | 1, hcall, c2, c3, c4, c5 =>
    obtain ⟨n1, out, k1, M2, k2, k3, k4, k5⟩ := K1 v M1 c5 lx h' hl c2
    refine ⟨max n0 n1 + 1, out, fun n hn => ?_, M2, k2, ?_, ?_, k5⟩
    · obtain ⟨n, rfl⟩ : ∃ n', n = n' + 1 := ⟨n - 1, by omega⟩
      rw [e1, run_row, h1 h hM, hcall n (by omega)]
      exact k1 n (by omega)
    · have c3' : h'.2.2.1 ≤ h.2.2.1 + 0 := c3
      omega
    · have c4' : h'.2.2.2.1 ≤ h.2.2.2.1 + 0 := c4
      omega
  | e + 2, hcall, c2, c3, c4, c5 =>
    refine ⟨n0 + 1, ((e + 2, none), h'), fun n hn => ?_, M1, c2, ?_, ?_, K2 e v M1 c5⟩
    · obtain ⟨n, rfl⟩ : ∃ n', n = n' + 1 := ⟨n - 1, by omega⟩
      rw [e1, run_row, h1 h hM, hcall n (by omega)]
      rfl
    · have c3' : h'.2.2.1 ≤ h.2.2.1 + (0 + 1) := c3
      show h'.2.2.1 ≤ h.2.2.1 + (w + 1)
      omega
    · have c4' : h'.2.2.2.1 ≤ h.2.2.2.1 + 6 * (0 + 1) := c4
      show h'.2.2.2.1 ≤ h.2.2.2.1 + 6 * (w + 1)
      omega
theorem at_callS {as : List (sx_V Int)} {r : List (sx_V Int)} {Qc : Nat → sx_V Int → mem → Prop} (hd : cdx m i = (13, (a, b))) (hp : sx_pop (Nat.mod b 16) [] st = some (as, r)) (hs : (Nat.ble (sx_sw r) 8 && sx_n2 as) = true)
    (C : At X 0 a 0 as [] M Qc) (K0 : ∀ v M', Qc 0 v M' → At X w m (i + 1) ls r M' Q) (K1 : ∀ v M', Qc 1 v M' → At X w m (i + 1) ls (v :: r) M' Q) (K2 : ∀ e v M', Qc (e + 2) v M' → Q (e + 2) none M') : At X w m i ls st M Q :=
  at_call9 hd (by decide) (sx_a2 hs).2 (fun h _ call go c lx => by
    show sh_callS call go a b _ lx st h = _
    unfold sh_callS
    simp only [hp, hs, cond_true]) C K0 K1 K2
theorem at_callV {as : List (sx_V Int)} {r : List (sx_V Int)} {Qc : Nat → sx_V Int → mem → Prop} (hd : cdx m i = (4, (a, b))) (hp : sx_pop (Nat.mod b 16) [] st = some (as, vr k :: r)) (hk : ly_c k = Nat.div b 16) (hs : (Nat.ble (Nat.div b 16) 7 && (Nat.ble (sx_sw r) 8 && sx_n2 as)) = true)
    (C : At X 0 a 0 (vr k :: as) [] M Qc) (K0 : ∀ v M', Qc 0 v M' → At X w m (i + 1) ls r M' Q) (K1 : ∀ v M', Qc 1 v M' → At X w m (i + 1) ls (v :: r) M' Q) (K2 : ∀ e v M', Qc (e + 2) v M' → Q (e + 2) none M') : At X w m i ls st M Q :=
  at_call9 hd (by decide) (show sx_n2 (vr k :: as) = true from (sx_a2 (sx_a2 hs).2).2) (fun h hM call go c lx => by
    show sh_callV call go a b _ lx st h = _
    unfold sh_callV
    have e1 := hM.1 k (by rw [hk]; exact Nat.le_of_ble_eq_true (sx_a2 hs).1)
    rw [hk] at e1
    simp only [hp, e1, Nat.beq_refl, (sx_a2 hs).2, Bool.and_self, cond_true]) C K0 K1 K2
theorem q_no {P : Prop} {t u : Nat} (h : t = u) (hn : t ≠ u) : P := absurd h hn
theorem at_callSI {as : List (sx_V Int)} {r : List (sx_V Int)} {P : Int → mem → Prop} (hd : cdx m i = (13, (a, b))) (hp : sx_pop (Nat.mod b 16) [] st = some (as, r)) (hs : (Nat.ble (sx_sw r) 8 && sx_n2 as) = true) (C : At X 0 a 0 as [] M (qI P)) (K : ∀ x M', inR x → P x M' → At X w m (i + 1) ls (vi x :: r) M' Q) : At X w m i ls st M Q :=
  at_callS hd hp hs C (fun v M' h => absurd h.1 (by decide)) (fun v M' h => by obtain ⟨-, x, rfl, hr, hx⟩ := h; exact K x M' hr hx) (fun e v M' h => absurd h.1 (by omega))
theorem at_callVI {as : List (sx_V Int)} {r : List (sx_V Int)} {P : Int → mem → Prop} (hd : cdx m i = (4, (a, b))) (hp : sx_pop (Nat.mod b 16) [] st = some (as, vr k :: r)) (hk : ly_c k = Nat.div b 16) (hs : (Nat.ble (Nat.div b 16) 7 && (Nat.ble (sx_sw r) 8 && sx_n2 as)) = true) (C : At X 0 a 0 (vr k :: as) [] M (qI P)) (K : ∀ x M', inR x → P x M' → At X w m (i + 1) ls (vi x :: r) M' Q) : At X w m i ls st M Q :=
  at_callV hd hp hk hs C (fun v M' h => absurd h.1 (by decide)) (fun v M' h => by obtain ⟨-, x, rfl, hr, hx⟩ := h; exact K x M' hr hx) (fun e v M' h => absurd h.1 (by omega))
theorem at_callSV {as : List (sx_V Int)} {r : List (sx_V Int)} {P : mem → Prop} (hd : cdx m i = (13, (a, b))) (hp : sx_pop (Nat.mod b 16) [] st = some (as, r)) (hs : (Nat.ble (sx_sw r) 8 && sx_n2 as) = true) (C : At X 0 a 0 as [] M (qV P)) (K : ∀ M', P M' → At X w m (i + 1) ls r M' Q) : At X w m i ls st M Q :=
  at_callS hd hp hs C (fun v M' h => K M' h.2.2) (fun v M' h => absurd h.1 (by decide)) (fun e v M' h => absurd h.1 (by omega))
theorem at_callVV {as : List (sx_V Int)} {r : List (sx_V Int)} {P : mem → Prop} (hd : cdx m i = (4, (a, b))) (hp : sx_pop (Nat.mod b 16) [] st = some (as, vr k :: r)) (hk : ly_c k = Nat.div b 16) (hs : (Nat.ble (Nat.div b 16) 7 && (Nat.ble (sx_sw r) 8 && sx_n2 as)) = true) (C : At X 0 a 0 (vr k :: as) [] M (qV P)) (K : ∀ M', P M' → At X w m (i + 1) ls r M' Q) : At X w m i ls st M Q :=
  at_callV hd hp hk hs C (fun v M' h => K M' h.2.2) (fun v M' h => absurd h.1 (by decide)) (fun e v M' h => absurd h.1 (by omega))
theorem at_callVIT {as : List (sx_V Int)} {r : List (sx_V Int)} {P : Int → mem → Prop} {E : Nat → mem → Prop} (hd : cdx m i = (4, (a, b))) (hp : sx_pop (Nat.mod b 16) [] st = some (as, vr k :: r)) (hk : ly_c k = Nat.div b 16) (hs : (Nat.ble (Nat.div b 16) 7 && (Nat.ble (sx_sw r) 8 && sx_n2 as)) = true) (C : At X 0 a 0 (vr k :: as) [] M (qT (qI P) E)) (K : ∀ x M', inR x → P x M' → At X w m (i + 1) ls (vi x :: r) M' Q) (K2 : ∀ e M', E e M' → Q (e + 2) none M') : At X w m i ls st M Q :=
  at_callV hd hp hk hs C (fun v M' h => by rcases h with h | ⟨e, h, -⟩; exact absurd h.1 (by decide); omega) (fun v M' h => by rcases h with ⟨-, x, rfl, hr, hx⟩ | ⟨e, h, -⟩; exact K x M' hr hx; omega) (fun e v M' h => by rcases h with ⟨h, -⟩ | ⟨e', h, -, h2⟩; omega; exact K2 e M' (by rw [show e = e' by omega]; exact h2))
theorem at_callVVT {as : List (sx_V Int)} {r : List (sx_V Int)} {P : mem → Prop} {E : Nat → mem → Prop} (hd : cdx m i = (4, (a, b))) (hp : sx_pop (Nat.mod b 16) [] st = some (as, vr k :: r)) (hk : ly_c k = Nat.div b 16) (hs : (Nat.ble (Nat.div b 16) 7 && (Nat.ble (sx_sw r) 8 && sx_n2 as)) = true) (C : At X 0 a 0 (vr k :: as) [] M (qT (qV P) E)) (K : ∀ M', P M' → At X w m (i + 1) ls r M' Q) (K2 : ∀ e M', E e M' → Q (e + 2) none M') : At X w m i ls st M Q :=
  at_callV hd hp hk hs C (fun v M' h => by rcases h with ⟨-, -, hx⟩ | ⟨e, h, -⟩; exact K M' hx; omega) (fun v M' h => by rcases h with ⟨h, -⟩ | ⟨e, h, -⟩; exact absurd h (by decide); omega) (fun e v M' h => by rcases h with ⟨h, -⟩ | ⟨e', h, -, h2⟩; omega; exact K2 e M' (by rw [show e = e' by omega]; exact h2))
theorem at_callVRT {as : List (sx_V Int)} {r : List (sx_V Int)} {P : Nat → mem → Prop} {E : Nat → mem → Prop} (hd : cdx m i = (4, (a, b))) (hp : sx_pop (Nat.mod b 16) [] st = some (as, vr k :: r)) (hk : ly_c k = Nat.div b 16) (hs : (Nat.ble (Nat.div b 16) 7 && (Nat.ble (sx_sw r) 8 && sx_n2 as)) = true) (C : At X 0 a 0 (vr k :: as) [] M (qT (qR P) E)) (K : ∀ t M', P t M' → At X w m (i + 1) ls (vr t :: r) M' Q) (K2 : ∀ e M', E e M' → Q (e + 2) none M') : At X w m i ls st M Q :=
  at_callV hd hp hk hs C (fun v M' h => by rcases h with h | ⟨e, h, -⟩; exact absurd h.1 (by decide); omega) (fun v M' h => by rcases h with ⟨-, x, rfl, hx⟩ | ⟨e, h, -⟩; exact K x M' hx; omega) (fun e v M' h => by rcases h with ⟨h, -⟩ | ⟨e', h, -, h2⟩; omega; exact K2 e M' (by rw [show e = e' by omega]; exact h2))
theorem at_callSVT {as : List (sx_V Int)} {r : List (sx_V Int)} {P : mem → Prop} {E : Nat → mem → Prop} (hd : cdx m i = (13, (a, b))) (hp : sx_pop (Nat.mod b 16) [] st = some (as, r)) (hs : (Nat.ble (sx_sw r) 8 && sx_n2 as) = true) (C : At X 0 a 0 as [] M (qT (qV P) E)) (K : ∀ M', P M' → At X w m (i + 1) ls r M' Q) (K2 : ∀ e M', E e M' → Q (e + 2) none M') : At X w m i ls st M Q :=
  at_callS hd hp hs C (fun v M' h => by rcases h with ⟨-, -, hx⟩ | ⟨e, h, -⟩; exact K M' hx; omega) (fun v M' h => by rcases h with ⟨h, -⟩ | ⟨e, h, -⟩; exact absurd h (by decide); omega) (fun e v M' h => by rcases h with ⟨h, -⟩ | ⟨e', h, -, h2⟩; omega; exact K2 e M' (by rw [show e = e' by omega]; exact h2))
theorem at_callNI {as : List (sx_V Int)} {r : List (sx_V Int)} {P : Int → mem → Prop} (hd : cdx m i = (41, (a, b))) (hp : sx_pop (Nat.mod b 16) [] st = some (as, r)) (hs : (Nat.ble (sx_sw r) 8 && sx_n2 as) = true) (C : At X 0 a 0 as [] M (qI P)) (K : ∀ x M', inR x → P x M' → At X w m (i + 1) ls (vi x :: r) M' Q) : At X w m i ls st M Q := fun lx h hl hM => by
  obtain ⟨x, e1, h41, rfl, rfl⟩ := cdx_ok hd (by decide)
  obtain ⟨n0, out, c1, M1, c2, c3, c4, c5⟩ := C (sx_args 0 as) h (lsR_entry (sx_a2 hs).2) hM
  obtain ⟨⟨t, v⟩, h'⟩ := out
  obtain ⟨ht, y, hv, hr, hP⟩ := c5
  have ht : t = 1 := ht
  have hv : v = vi y := hv
  subst ht
  subst hv
  have hcall : ∀ n, n0 ≤ n → sx_ca sx_cd (sx_run sx_cd (oI X) n) (sx_xa x) as h = some ((1, vi y), h') := c1
  obtain ⟨n1, out, k1, M2, k2, k3, k4, k5⟩ := K y M1 hr hP lx h' hl c2
  refine ⟨max n0 n1 + 1, out, fun n hn => ?_, M2, k2, ?_, ?_, k5⟩
  · obtain ⟨n, rfl⟩ : ∃ n', n = n' + 1 := ⟨n - 1, by omega⟩
    rw [e1, run_row, h41]
    show sh_callN (sx_ca sx_cd (sx_run sx_cd (oI X) n)) _ (sx_xa x) (sx_xb x) _ lx st h = _
    unfold sh_callN
    simp only [hp, hs, cond_true, hcall n (by omega)]
    exact k1 n (by omega)
  · have c3' : h'.2.2.1 ≤ h.2.2.1 + 0 := c3
    omega
  · have c4' : h'.2.2.2.1 ≤ h.2.2.2.1 + 0 := c4
    omega
/-! ===== weaker ends ===== -/
theorem At.mono {Q2 : Nat → sx_V Int → mem → Prop} (A : At X w m i ls st M Q) (hQ : ∀ t v M', Q t v M' → Q2 t v M') : At X w m i ls st M Q2 := fun lx h hl hM => by
  obtain ⟨n0, out, c1, M1, c2, c3, c4, c5⟩ := A lx h hl hM
  exact ⟨n0, out, c1, M1, c2, c3, c4, hQ _ _ _ c5⟩
theorem at_iretI {P : Int → mem → Prop} (hd : cdx m i = (7, (a, b))) (hr : inR x) (hq : P x M) : At X w m i ls [vi x] M (qI P) := at_ireturn hd ⟨rfl, x, rfl, hr, hq⟩
theorem at_iretIT {P : Int → mem → Prop} {E : Nat → mem → Prop} (hd : cdx m i = (7, (a, b))) (hr : inR x) (hq : P x M) : At X w m i ls [vi x] M (qT (qI P) E) := at_ireturn hd (Or.inl ⟨rfl, x, rfl, hr, hq⟩)
theorem at_zretI {P : Int → mem → Prop} (hd : cdx m i = (19, (a, b))) (hx : x = 0 ∨ x = 1) (hq : P x M) : At X w m i ls [vi x] M (qI P) := at_zreturn hd hx ⟨rfl, x, rfl, (by rcases hx with rfl | rfl <;> decide), hq⟩
theorem at_vretV {P : mem → Prop} (hd : cdx m i = (17, (a, b))) (hq : P M) : At X w m i ls [] M (qV P) := at_vreturn hd ⟨rfl, rfl, hq⟩
theorem at_vretVT {P : mem → Prop} {E : Nat → mem → Prop} (hd : cdx m i = (17, (a, b))) (hq : P M) : At X w m i ls [] M (qT (qV P) E) := at_vreturn hd (Or.inl ⟨rfl, rfl, hq⟩)
theorem at_aretR {P : Nat → mem → Prop} (hd : cdx m i = (33, (a, b))) (hq : P k M) : At X w m i ls [vr k] M (qR P) := at_areturn hd ⟨rfl, k, rfl, hq⟩
theorem at_aretRT {P : Nat → mem → Prop} {E : Nat → mem → Prop} (hd : cdx m i = (33, (a, b))) (hq : P k M) : At X w m i ls [vr k] M (qT (qR P) E) := at_areturn hd (Or.inl ⟨rfl, k, rfl, hq⟩)
theorem at_thrT {Q1 : Nat → sx_V Int → mem → Prop} {E : Nat → mem → Prop} (hd : cdx m i = (25, (a, b))) (hs : Nat.ble (sx_sw st) 8 = true) (hq : E a M) : At X w m i ls st M (qT Q1 E) := at_throw hd hs (Or.inr ⟨a, rfl, rfl, hq⟩)
theorem at_thrTW {Q1 : Nat → sx_V Int → mem → Prop} {E : Nat → mem → Prop} (hd : cdx m i = (42, (a, b))) (hs : Nat.ble (sx_sw st) 8 = true) (hq : E a M) : At X w m i ls st M (qT Q1 E) := at_throwW hd hs (Or.inr ⟨a, rfl, rfl, hq⟩)
end ME
