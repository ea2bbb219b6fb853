/-! ===== steps: what they say ===== -/
theorem at_mem {X : scr} {w m i : Nat} {ls st : List (sx_V Int)} {M : mem} {Q : Nat → sx_V Int → mem → Prop} (K : ∀ M0, M0 = M → At X w m i ls st M0 Q) : At X w m i ls st M Q := K M rfl
noncomputable def lsLe : List (sx_V Int) → List (sx_V Int) → Prop
  | [], _ => True
  | v :: r, [] => sx_is2 v = true ∧ lsLe r []
  | v :: r, v' :: r' => (v' = v ∨ sx_is2 v = true) ∧ lsLe r r'
theorem lsLe_ok (ls : List (sx_V Int)) : ∀ (ls' : List (sx_V Int)), lsLe ls ls' → ∀ (j : Nat) (v : sx_V Int), ldl ls j = some v → sx_is2 v = false → ldl ls' j = some v := by
  induction ls with
  | nil => intro ls' _ j v h _; rw [ldl_nil] at h; cases h
  | cons x r ih =>
    intro ls' hle j v h h2
    cases ls' with
    | nil =>
      have hle : sx_is2 x = true ∧ lsLe r [] := hle
      cases j with
      | zero => have h3 : some x = some v := h; cases h3; rw [hle.1] at h2; cases h2
      | succ j => have h4 := ih [] hle.2 j v h h2; rw [ldl_nil] at h4; cases h4
    | cons x' r' =>
      have hle : (x' = x ∨ sx_is2 x = true) ∧ lsLe r r' := hle
      cases j with
      | zero =>
        have h3 : some x = some v := h
        cases h3
        rcases hle.1 with e | e
        · rw [e]; rfl
        · rw [e] at h2; cases h2
      | succ j => exact ih r' hle.2 j v h h2
theorem at_wk {X : scr} {w m i : Nat} {ls ls' st : List (sx_V Int)} {M : mem} {Q : Nat → sx_V Int → mem → Prop} (h : lsLe ls ls') (A : At X w m i ls st M Q) : At X w m i ls' st M Q := fun lx hh hl hM => A lx hh (fun j v h1 h2 => hl j v (lsLe_ok ls ls' h j v h1 h2) h2) hM
section CN
variable {X : scr} {w m i a b : Nat} {ls st : List (sx_V Int)} {M : mem} {Q : Nat → sx_V Int → mem → Prop} {x y z : Int}
theorem at_iincC (hd : cdx m i = (14, (a, b))) (he : ldl ls a = some (vi x)) (hc : ii_k b = y) (hz : wr (x + y) = z) (K : At X w m (i + 1) (stl ls a (vi z)) st M Q) : At X w m i ls st M Q := at_iincW hd he hc (by rw [hz]; exact K)
theorem at_addC (hd : cdx m i = (8, (0, b))) (hz : wr (x + y) = z) (K : At X w m (i + 1) ls (vi z :: st) M Q) : At X w m i ls (vi y :: vi x :: st) M Q := at_addW hd (by rw [hz]; exact K)
theorem at_subC (hd : cdx m i = (8, (1, b))) (hz : wr (x - y) = z) (K : At X w m (i + 1) ls (vi z :: st) M Q) : At X w m i ls (vi y :: vi x :: st) M Q := at_subW hd (by rw [hz]; exact K)
theorem at_mulC (hd : cdx m i = (8, (2, b))) (hz : wr (x * y) = z) (K : At X w m (i + 1) ls (vi z :: st) M Q) : At X w m i ls (vi y :: vi x :: st) M Q := at_mulW hd (by rw [hz]; exact K)
end CN
abbrev sV : Type := List Int × List Int
noncomputable def sv (M : mem) (s : Nat) : sV := ([M s 0, M s 1, M s 2, M s 3, M s 4, M s 5, M (s + 1) 0, M (s + 1) 1, M (s + 2) 0, M (s + 2) 1, M (s + 3) 0, M (s + 3) 1], tk M (s + 6))
abbrev TI (M : mem) : Prop := ∀ k, ly_c k = 5 → tkI M k
abbrev blk (s q : Nat) : Prop := s ≤ q ∧ q < s + 8
theorem TI_fr {P : Nat → Prop} {M M' : mem} (hT : TI M) (h : fr P M M') (hn : ∀ k, ly_c k = 5 → P k → tkI M' k) : TI M' := fun k hk => by
  by_cases hP : P k
  · exact hn k hk hP
  · exact tkI_fr h hP (hT k hk)
theorem TI_no {P : Nat → Prop} {M M' : mem} (hT : TI M) (h : fr P M M') (hn : ∀ k, ly_c k = 5 → ¬ P k) : TI M' := TI_fr hT h (fun k hk hP => absurd hP (hn k hk))
theorem TI_um {M : mem} {k : Nat} {j v : Int} (hT : TI M) (hn : ly_c k ≠ 5) : TI (um M k j v) := TI_no (P := fun q => q = k) hT (fr_um rfl) (fun q hq e => hn (by rw [← e]; exact hq))
theorem sv_fr {P : Nat → Prop} {M M' : mem} {s : Nat} (h : fr P M M') (h0 : ¬ P s) (h1 : ¬ P (s + 1)) (h2 : ¬ P (s + 2)) (h3 : ¬ P (s + 3)) (h6 : ¬ P (s + 6)) (h7 : ¬ P (s + 7)) : sv M' s = sv M s := by
  unfold sv
  rw [h s _ h0, h s _ h0, h s _ h0, h s _ h0, h s _ h0, h s _ h0, h (s + 1) _ h1, h (s + 1) _ h1, h (s + 2) _ h2, h (s + 2) _ h2, h (s + 3) _ h3, h (s + 3) _ h3, tk_fr h h6 h7]
theorem tk_um {M : mem} {k q : Nat} {j v : Int} (h1 : k ≠ q) (h2 : k ≠ q + 1) : tk (um M k j v) q = tk M q := tk_fr (P := fun x => x = k) (fr_um rfl) (fun e => h1 e.symm) (fun e => h2 e.symm)
/-- the tokens' parts of a step are not its own cells -/
theorem st_ev {s : Nat} (h : ly_c s = 4) : s % 2 = 0 := by
  rcases st_al h with e | e <;> omega
theorem st_dis {s o : Nat} (h : ly_c s = 4) (h2 : ly_c o = 4) (hne : s ≠ o) : s + 8 ≤ o ∨ o + 8 ≤ s := by
  rcases st_al h with e | e <;> rcases st_al h2 with f | f <;> omega
noncomputable def psM (M : mem) (s : Nat) (r : Int) : Int := if r = 0 then M (s + 1) 0 else wr (wr (M (s + 1) 1 + M (s + 3) 0) - M (s + 2) 0)
noncomputable def mkT (is mb t : Int) : Int := if t < 100 then t else if is = 0 then ii_and t (ii_xor mb (-1)) else ii_or t mb
noncomputable def okV (v : sV) (l : List Int) : Prop := match v with
  | ([im, _, _, _, _, rc, s0, s1, t0, t1, p0, p1], _) =>
    if im = 0 then
      if rc ≤ 0 then True
      else ¬ s0 < 0 ∧ ¬ t0 < 0 ∧
        if rc ≤ 1 then wr (s0 + t0) ≤ (l.length : Int) ∧ wr ((l.length : Int) + wr (p0 - t0)) ≤ 60
        else ¬ s1 < wr (s0 + t0) ∧ ¬ t1 < 0 ∧ wr (s1 + t1) ≤ (l.length : Int) ∧ wr (wr ((l.length : Int) + wr (p0 - t0)) + wr (p1 - t1)) ≤ 60
    else True
  | _ => False
noncomputable def app60 (a b : List Int) : List Int := (a ++ b).take 60
noncomputable def mkL (is mb ms me : Int) (l : List Int) : List Int := (List.range l.length).map (fun i : Nat => if ms ≤ (i : Int) ∧ (i : Int) < me then mkT is mb (atL l i) else atL l i)
noncomputable def apV (v : sV) (l : List Int) : List Int := match v with
  | ([im, ms, me, mb, is, rc, s0, s1, t0, t1, p0, p1], P) =>
    if im = 0 then
      if rc ≤ 0 then app60 [] (slc l 0 (l.length : Int))
      else if rc ≤ 1 then app60 (app60 (app60 [] (slc l 0 s0)) (slc P 0 (wr (0 + p0)))) (slc l (wr (s0 + t0)) (l.length : Int))
      else app60 (app60 (app60 (app60 (app60 [] (slc l 0 s0)) (slc P 0 (wr (0 + p0)))) (slc l (wr (s0 + t0)) s1)) (slc P (wr (0 + p0)) (wr (wr (0 + p0) + p1)))) (slc l (wr (s1 + t1)) (l.length : Int))
    else mkL is mb ms me l
  | _ => []

set_option maxRecDepth 100000 in
set_option maxHeartbeats 4000000 in
theorem c_leaveRange {X : scr} {M : mem} {k : Nat} (hk : ly_c k = 3) : At X 0 19 0 [vr k] [] M (qV (fun M' => fr (fun q => q = k) M M')) := by
  refine at_aload dx_19_0 rfl ?_
  refine at_const (x := -1) dx_19_1 rfl ?_
  refine at_putI 3 dx_19_2 hk rfl rfl (by decide) ?_
  refine at_aload dx_19_3 rfl ?_
  refine at_const (x := 0) dx_19_4 rfl ?_
  refine at_putI 4 dx_19_5 hk rfl rfl (by decide) ?_
  refine at_aload dx_19_6 rfl ?_
  refine at_const (x := 0) dx_19_7 rfl ?_
  refine at_putZ 5 dx_19_8 hk rfl rfl (Or.inl rfl) ?_
  refine at_aload dx_19_9 rfl ?_
  refine at_const (x := 0) dx_19_10 rfl ?_
  refine at_putZ 6 dx_19_11 hk rfl rfl (Or.inl rfl) ?_
  refine at_vretV dx_19_12 ?_
  (repeat (first | exact fr_rf | refine fr_ums ?_ (by (try dsimp only [blk]); first | done | omega)))

set_option maxRecDepth 100000 in
set_option maxHeartbeats 4000000 in
theorem c_begin {X : scr} {M : mem} {k : Nat} {p z : Int} (hk : ly_c k = 3) (hp : inR p) (hz : z = 0 ∨ z = 1) (rz : inR z) : At X 0 18 0 [vr k, vi p, vi z] [] M (qV (fun M' => fr (fun q => q = k) M M')) := by
  refine at_aload dx_18_0 rfl ?_
  refine at_iload dx_18_1 rfl ?_
  refine at_putI 0 dx_18_2 hk rfl rfl hp ?_
  refine at_aload dx_18_3 rfl ?_
  refine at_iload dx_18_4 rfl ?_
  refine at_putZ 1 dx_18_5 hk rfl rfl hz ?_
  refine at_aload dx_18_6 rfl ?_
  refine at_const (x := 0) dx_18_7 rfl ?_
  refine at_putZ 2 dx_18_8 hk rfl rfl (Or.inl rfl) ?_
  refine at_aload dx_18_9 rfl ?_
  refine at_callVV dx_18_10 rfl hk rfl (c_leaveRange hk) ?_
  intro M1 h1
  refine at_vretV dx_18_11 ?_
  refine fr_tr ?_ h1; (repeat (first | exact fr_rf | refine fr_ums ?_ (by (try dsimp only [blk]); first | done | omega)))

set_option maxRecDepth 100000 in
set_option maxHeartbeats 4000000 in
theorem c_enterRange {X : scr} {M : mem} {k : Nat} {g a b c d : Int} (hk : ly_c k = 3) (hg : inR g) (ha : inR a) (hb : inR b) (hc : inR c) (hd : inR d) : At X 0 20 0 [vr k, vi g, vi a, vi b, vi c, vi d] [] M (qV (fun M' => fr (fun q => q = k) M M')) := by
  refine at_aload dx_20_0 rfl ?_
  refine at_getI 0 dx_20_1 hk rfl rfl (fun r1 => ?_)
  refine at_iload dx_20_2 rfl ?_
  refine at_cneR dx_20_3 r1 ha (fun c3 => ?_) (fun c3 => ?_)
  · skip
    refine at_const (x := 0) dx_20_6 rfl ?_
    refine at_istore dx_20_7 ?_
    refine at_aload dx_20_8 rfl ?_
    refine at_getI 0 dx_20_9 hk rfl rfl (fun r9 => ?_)
    refine at_iload dx_20_10 rfl ?_
    refine at_cneR dx_20_11 r9 hb (fun c11 => ?_) (fun c11 => ?_)
    · skip
      refine at_const (x := 0) dx_20_14 rfl ?_
      refine at_istore dx_20_15 ?_
      refine at_aload dx_20_16 rfl ?_
      refine at_iload dx_20_17 rfl ?_
      refine at_putI 3 dx_20_18 hk rfl rfl hg ?_
      refine at_aload dx_20_19 rfl ?_
      refine at_aload dx_20_20 rfl ?_
      refine at_getI 0 dx_20_21 hk rfl rfl (fun r21 => ?_)
      refine at_iload dx_20_22 rfl ?_
      refine at_subW dx_20_23 ?_
      refine at_putI 4 dx_20_24 hk rfl rfl (inR_wr _) ?_
      refine at_aload dx_20_25 rfl ?_
      refine at_iload dx_20_26 rfl ?_
      refine at_zneR dx_20_27 (by decide) (fun c => absurd c (by decide)) (fun _ => ?_)
      refine at_iload dx_20_28 rfl ?_
      refine at_zneR dx_20_29 (by decide) (fun c => absurd c (by decide)) (fun _ => ?_)
      refine at_const (x := 1) dx_20_30 rfl ?_
      refine at_goto dx_20_31 ?_
      refine at_putZ 5 dx_20_33 hk rfl rfl (Or.inr rfl) ?_
      refine at_aload dx_20_34 rfl ?_
      refine at_aload dx_20_35 rfl ?_
      refine at_getI 1 dx_20_36 hk rfl rfl (fun r36 => ?_)
      refine at_zeqR dx_20_37 r36 (fun c37 => ?_) (fun c37 => ?_)
      · skip
        refine at_iload dx_20_44 rfl ?_
        refine at_zneR dx_20_45 (by decide) (fun c => absurd c (by decide)) (fun _ => ?_)
        refine at_const (x := 1) dx_20_46 rfl ?_
        refine at_goto dx_20_47 ?_
        refine at_putZ 6 dx_20_49 hk rfl rfl (Or.inr rfl) ?_
        refine at_iload dx_20_50 rfl ?_
        refine at_zeqR dx_20_51 (by decide) (fun _ => ?_) (fun c => absurd c (by decide))
        refine at_iload dx_20_58 rfl ?_
        refine at_zeqR dx_20_59 (by decide) (fun _ => ?_) (fun c => absurd c (by decide))
        refine at_aload dx_20_66 rfl ?_
        refine at_aload dx_20_67 rfl ?_
        refine at_getI 1 dx_20_68 hk rfl rfl (fun r68 => ?_)
        refine at_zeqR dx_20_69 r68 (fun c69 => ?_) (fun c69 => ?_)
        · skip
          refine at_iload dx_20_72 rfl ?_
          refine at_putI 0 dx_20_73 hk rfl rfl hc ?_
          refine at_vretV dx_20_74 ?_
          (repeat (first | exact fr_rf | refine fr_ums ?_ (by (try dsimp only [blk]); first | done | omega)))
        · skip
          refine at_iload dx_20_70 rfl ?_
          refine at_goto dx_20_71 ?_
          refine at_putI 0 dx_20_73 hk rfl rfl hd ?_
          refine at_vretV dx_20_74 ?_
          (repeat (first | exact fr_rf | refine fr_ums ?_ (by (try dsimp only [blk]); first | done | omega)))
      · skip
        refine at_iload dx_20_38 rfl ?_
        refine at_zneR dx_20_39 (by decide) (fun c => absurd c (by decide)) (fun _ => ?_)
        refine at_const (x := 1) dx_20_40 rfl ?_
        refine at_goto dx_20_41 ?_
        refine at_putZ 6 dx_20_49 hk rfl rfl (Or.inr rfl) ?_
        refine at_iload dx_20_50 rfl ?_
        refine at_zeqR dx_20_51 (by decide) (fun _ => ?_) (fun c => absurd c (by decide))
        refine at_iload dx_20_58 rfl ?_
        refine at_zeqR dx_20_59 (by decide) (fun _ => ?_) (fun c => absurd c (by decide))
        refine at_aload dx_20_66 rfl ?_
        refine at_aload dx_20_67 rfl ?_
        refine at_getI 1 dx_20_68 hk rfl rfl (fun r68 => ?_)
        refine at_zeqR dx_20_69 r68 (fun c69 => ?_) (fun c69 => ?_)
        · skip
          refine at_iload dx_20_72 rfl ?_
          refine at_putI 0 dx_20_73 hk rfl rfl hc ?_
          refine at_vretV dx_20_74 ?_
          (repeat (first | exact fr_rf | refine fr_ums ?_ (by (try dsimp only [blk]); first | done | omega)))
        · skip
          refine at_iload dx_20_70 rfl ?_
          refine at_goto dx_20_71 ?_
          refine at_putI 0 dx_20_73 hk rfl rfl hd ?_
          refine at_vretV dx_20_74 ?_
          (repeat (first | exact fr_rf | refine fr_ums ?_ (by (try dsimp only [blk]); first | done | omega)))
    · skip
      refine at_const (x := 1) dx_20_12 rfl ?_
      refine at_goto dx_20_13 ?_
      refine at_istore dx_20_15 ?_
      refine at_aload dx_20_16 rfl ?_
      refine at_iload dx_20_17 rfl ?_
      refine at_putI 3 dx_20_18 hk rfl rfl hg ?_
      refine at_aload dx_20_19 rfl ?_
      refine at_aload dx_20_20 rfl ?_
      refine at_getI 0 dx_20_21 hk rfl rfl (fun r21 => ?_)
      refine at_iload dx_20_22 rfl ?_
      refine at_subW dx_20_23 ?_
      refine at_putI 4 dx_20_24 hk rfl rfl (inR_wr _) ?_
      refine at_aload dx_20_25 rfl ?_
      refine at_iload dx_20_26 rfl ?_
      refine at_zneR dx_20_27 (by decide) (fun c => absurd c (by decide)) (fun _ => ?_)
      refine at_iload dx_20_28 rfl ?_
      refine at_zneR dx_20_29 (by decide) (fun _ => ?_) (fun c => absurd c (by decide))
      refine at_const (x := 0) dx_20_32 rfl ?_
      refine at_putZ 5 dx_20_33 hk rfl rfl (Or.inl rfl) ?_
      refine at_aload dx_20_34 rfl ?_
      refine at_aload dx_20_35 rfl ?_
      refine at_getI 1 dx_20_36 hk rfl rfl (fun r36 => ?_)
      refine at_zeqR dx_20_37 r36 (fun c37 => ?_) (fun c37 => ?_)
      · skip
        refine at_iload dx_20_44 rfl ?_
        refine at_zneR dx_20_45 (by decide) (fun c => absurd c (by decide)) (fun _ => ?_)
        refine at_const (x := 1) dx_20_46 rfl ?_
        refine at_goto dx_20_47 ?_
        refine at_putZ 6 dx_20_49 hk rfl rfl (Or.inr rfl) ?_
        refine at_iload dx_20_50 rfl ?_
        refine at_zeqR dx_20_51 (by decide) (fun _ => ?_) (fun c => absurd c (by decide))
        refine at_iload dx_20_58 rfl ?_
        refine at_zeqR dx_20_59 (by decide) (fun c => absurd c (by decide)) (fun _ => ?_)
        refine at_iload dx_20_60 rfl ?_
        refine at_zneR dx_20_61 (by decide) (fun c => absurd c (by decide)) (fun _ => ?_)
        refine at_aload dx_20_62 rfl ?_
        refine at_iload dx_20_63 rfl ?_
        refine at_putI 0 dx_20_64 hk rfl rfl hd ?_
        refine at_goto dx_20_65 ?_
        refine at_vretV dx_20_74 ?_
        (repeat (first | exact fr_rf | refine fr_ums ?_ (by (try dsimp only [blk]); first | done | omega)))
      · skip
        refine at_iload dx_20_38 rfl ?_
        refine at_zneR dx_20_39 (by decide) (fun _ => ?_) (fun c => absurd c (by decide))
        refine at_const (x := 0) dx_20_42 rfl ?_
        refine at_goto dx_20_43 ?_
        refine at_putZ 6 dx_20_49 hk rfl rfl (Or.inl rfl) ?_
        refine at_iload dx_20_50 rfl ?_
        refine at_zeqR dx_20_51 (by decide) (fun _ => ?_) (fun c => absurd c (by decide))
        refine at_iload dx_20_58 rfl ?_
        refine at_zeqR dx_20_59 (by decide) (fun c => absurd c (by decide)) (fun _ => ?_)
        refine at_iload dx_20_60 rfl ?_
        refine at_zneR dx_20_61 (by decide) (fun c => absurd c (by decide)) (fun _ => ?_)
        refine at_aload dx_20_62 rfl ?_
        refine at_iload dx_20_63 rfl ?_
        refine at_putI 0 dx_20_64 hk rfl rfl hd ?_
        refine at_goto dx_20_65 ?_
        refine at_vretV dx_20_74 ?_
        (repeat (first | exact fr_rf | refine fr_ums ?_ (by (try dsimp only [blk]); first | done | omega)))
  · skip
    refine at_const (x := 1) dx_20_4 rfl ?_
    refine at_goto dx_20_5 ?_
    refine at_istore dx_20_7 ?_
    refine at_aload dx_20_8 rfl ?_
    refine at_getI 0 dx_20_9 hk rfl rfl (fun r9 => ?_)
    refine at_iload dx_20_10 rfl ?_
    refine at_cneR dx_20_11 r9 hb (fun c11 => ?_) (fun c11 => ?_)
    · skip
      refine at_const (x := 0) dx_20_14 rfl ?_
      refine at_istore dx_20_15 ?_
      refine at_aload dx_20_16 rfl ?_
      refine at_iload dx_20_17 rfl ?_
      refine at_putI 3 dx_20_18 hk rfl rfl hg ?_
      refine at_aload dx_20_19 rfl ?_
      refine at_aload dx_20_20 rfl ?_
      refine at_getI 0 dx_20_21 hk rfl rfl (fun r21 => ?_)
      refine at_iload dx_20_22 rfl ?_
      refine at_subW dx_20_23 ?_
      refine at_putI 4 dx_20_24 hk rfl rfl (inR_wr _) ?_
      refine at_aload dx_20_25 rfl ?_
      refine at_iload dx_20_26 rfl ?_
      refine at_zneR dx_20_27 (by decide) (fun _ => ?_) (fun c => absurd c (by decide))
      refine at_const (x := 0) dx_20_32 rfl ?_
      refine at_putZ 5 dx_20_33 hk rfl rfl (Or.inl rfl) ?_
      refine at_aload dx_20_34 rfl ?_
      refine at_aload dx_20_35 rfl ?_
      refine at_getI 1 dx_20_36 hk rfl rfl (fun r36 => ?_)
      refine at_zeqR dx_20_37 r36 (fun c37 => ?_) (fun c37 => ?_)
      · skip
        refine at_iload dx_20_44 rfl ?_
        refine at_zneR dx_20_45 (by decide) (fun _ => ?_) (fun c => absurd c (by decide))
        refine at_const (x := 0) dx_20_48 rfl ?_
        refine at_putZ 6 dx_20_49 hk rfl rfl (Or.inl rfl) ?_
        refine at_iload dx_20_50 rfl ?_
        refine at_zeqR dx_20_51 (by decide) (fun c => absurd c (by decide)) (fun _ => ?_)
        refine at_iload dx_20_52 rfl ?_
        refine at_zneR dx_20_53 (by decide) (fun c => absurd c (by decide)) (fun _ => ?_)
        refine at_aload dx_20_54 rfl ?_
        refine at_iload dx_20_55 rfl ?_
        refine at_putI 0 dx_20_56 hk rfl rfl hc ?_
        refine at_goto dx_20_57 ?_
        refine at_vretV dx_20_74 ?_
        (repeat (first | exact fr_rf | refine fr_ums ?_ (by (try dsimp only [blk]); first | done | omega)))
      · skip
        refine at_iload dx_20_38 rfl ?_
        refine at_zneR dx_20_39 (by decide) (fun c => absurd c (by decide)) (fun _ => ?_)
        refine at_const (x := 1) dx_20_40 rfl ?_
        refine at_goto dx_20_41 ?_
        refine at_putZ 6 dx_20_49 hk rfl rfl (Or.inr rfl) ?_
        refine at_iload dx_20_50 rfl ?_
        refine at_zeqR dx_20_51 (by decide) (fun c => absurd c (by decide)) (fun _ => ?_)
        refine at_iload dx_20_52 rfl ?_
        refine at_zneR dx_20_53 (by decide) (fun c => absurd c (by decide)) (fun _ => ?_)
        refine at_aload dx_20_54 rfl ?_
        refine at_iload dx_20_55 rfl ?_
        refine at_putI 0 dx_20_56 hk rfl rfl hc ?_
        refine at_goto dx_20_57 ?_
        refine at_vretV dx_20_74 ?_
        (repeat (first | exact fr_rf | refine fr_ums ?_ (by (try dsimp only [blk]); first | done | omega)))
    · skip
      refine at_const (x := 1) dx_20_12 rfl ?_
      refine at_goto dx_20_13 ?_
      refine at_istore dx_20_15 ?_
      refine at_aload dx_20_16 rfl ?_
      refine at_iload dx_20_17 rfl ?_
      refine at_putI 3 dx_20_18 hk rfl rfl hg ?_
      refine at_aload dx_20_19 rfl ?_
      refine at_aload dx_20_20 rfl ?_
      refine at_getI 0 dx_20_21 hk rfl rfl (fun r21 => ?_)
      refine at_iload dx_20_22 rfl ?_
      refine at_subW dx_20_23 ?_
      refine at_putI 4 dx_20_24 hk rfl rfl (inR_wr _) ?_
      refine at_aload dx_20_25 rfl ?_
      refine at_iload dx_20_26 rfl ?_
      refine at_zneR dx_20_27 (by decide) (fun _ => ?_) (fun c => absurd c (by decide))
      refine at_const (x := 0) dx_20_32 rfl ?_
      refine at_putZ 5 dx_20_33 hk rfl rfl (Or.inl rfl) ?_
      refine at_aload dx_20_34 rfl ?_
      refine at_aload dx_20_35 rfl ?_
      refine at_getI 1 dx_20_36 hk rfl rfl (fun r36 => ?_)
      refine at_zeqR dx_20_37 r36 (fun c37 => ?_) (fun c37 => ?_)
      · skip
        refine at_iload dx_20_44 rfl ?_
        refine at_zneR dx_20_45 (by decide) (fun _ => ?_) (fun c => absurd c (by decide))
        refine at_const (x := 0) dx_20_48 rfl ?_
        refine at_putZ 6 dx_20_49 hk rfl rfl (Or.inl rfl) ?_
        refine at_iload dx_20_50 rfl ?_
        refine at_zeqR dx_20_51 (by decide) (fun c => absurd c (by decide)) (fun _ => ?_)
        refine at_iload dx_20_52 rfl ?_
        refine at_zneR dx_20_53 (by decide) (fun _ => ?_) (fun c => absurd c (by decide))
        refine at_iload dx_20_58 rfl ?_
        refine at_zeqR dx_20_59 (by decide) (fun c => absurd c (by decide)) (fun _ => ?_)
        refine at_iload dx_20_60 rfl ?_
        refine at_zneR dx_20_61 (by decide) (fun _ => ?_) (fun c => absurd c (by decide))
        refine at_aload dx_20_66 rfl ?_
        refine at_aload dx_20_67 rfl ?_
        refine at_getI 1 dx_20_68 hk rfl rfl (fun r68 => ?_)
        refine at_zeqR dx_20_69 r68 (fun c69 => ?_) (fun c69 => ?_)
        · skip
          refine at_iload dx_20_72 rfl ?_
          refine at_putI 0 dx_20_73 hk rfl rfl hc ?_
          refine at_vretV dx_20_74 ?_
          (repeat (first | exact fr_rf | refine fr_ums ?_ (by (try dsimp only [blk]); first | done | omega)))
        · skip
          refine at_iload dx_20_70 rfl ?_
          refine at_goto dx_20_71 ?_
          refine at_putI 0 dx_20_73 hk rfl rfl hd ?_
          refine at_vretV dx_20_74 ?_
          (repeat (first | exact fr_rf | refine fr_ums ?_ (by (try dsimp only [blk]); first | done | omega)))
      · skip
        refine at_iload dx_20_38 rfl ?_
        refine at_zneR dx_20_39 (by decide) (fun _ => ?_) (fun c => absurd c (by decide))
        refine at_const (x := 0) dx_20_42 rfl ?_
        refine at_goto dx_20_43 ?_
        refine at_putZ 6 dx_20_49 hk rfl rfl (Or.inl rfl) ?_
        refine at_iload dx_20_50 rfl ?_
        refine at_zeqR dx_20_51 (by decide) (fun c => absurd c (by decide)) (fun _ => ?_)
        refine at_iload dx_20_52 rfl ?_
        refine at_zneR dx_20_53 (by decide) (fun _ => ?_) (fun c => absurd c (by decide))
        refine at_iload dx_20_58 rfl ?_
        refine at_zeqR dx_20_59 (by decide) (fun c => absurd c (by decide)) (fun _ => ?_)
        refine at_iload dx_20_60 rfl ?_
        refine at_zneR dx_20_61 (by decide) (fun _ => ?_) (fun c => absurd c (by decide))
        refine at_aload dx_20_66 rfl ?_
        refine at_aload dx_20_67 rfl ?_
        refine at_getI 1 dx_20_68 hk rfl rfl (fun r68 => ?_)
        refine at_zeqR dx_20_69 r68 (fun c69 => ?_) (fun c69 => ?_)
        · skip
          refine at_iload dx_20_72 rfl ?_
          refine at_putI 0 dx_20_73 hk rfl rfl hc ?_
          refine at_vretV dx_20_74 ?_
          (repeat (first | exact fr_rf | refine fr_ums ?_ (by (try dsimp only [blk]); first | done | omega)))
        · skip
          refine at_iload dx_20_70 rfl ?_
          refine at_goto dx_20_71 ?_
          refine at_putI 0 dx_20_73 hk rfl rfl hd ?_
          refine at_vretV dx_20_74 ?_
          (repeat (first | exact fr_rf | refine fr_ums ?_ (by (try dsimp only [blk]); first | done | omega)))

set_option maxRecDepth 100000 in
set_option maxHeartbeats 4000000 in
theorem c_becomeChange {X : scr} {M : mem} {s : Nat} (hs : ly_c s = 4) : At X 0 22 0 [vr s] [] M (qV (fun M' => M' = um (um (um (um M s 0 0) s 5 0) (s + 4) 1 0) (s + 6) 1 0)) := by
  refine at_aload dx_22_0 rfl ?_
  refine at_const (x := 0) dx_22_1 rfl ?_
  refine at_putZ 0 dx_22_2 hs rfl rfl (Or.inl rfl) ?_
  refine at_aload dx_22_3 rfl ?_
  refine at_const (x := 0) dx_22_4 rfl ?_
  refine at_putI 5 dx_22_5 hs rfl rfl (by decide) ?_
  refine at_aload dx_22_6 rfl ?_
  refine at_getR dx_22_7 hs rfl (st_t9 hs) ?_
  refine at_callVV dx_22_8 rfl (st_c4 hs) rfl (c_clear (st_c4 hs)) ?_
  rintro _ rfl
  refine at_aload dx_22_9 rfl ?_
  refine at_getR dx_22_10 hs rfl (st_t10 hs) ?_
  refine at_callVV dx_22_11 rfl (st_c6 hs) rfl (c_clear (st_c6 hs)) ?_
  rintro _ rfl
  refine at_vretV dx_22_12 ?_
  exact rfl

set_option maxRecDepth 100000 in
set_option maxHeartbeats 4000000 in
theorem c_addRange {X : scr} {M : mem} {s : Nat} {f t : Int} (hs : ly_c s = 4) (hf : inR f) (ht : inR t) (hT : TI M) : At X 0 23 0 [vr s, vi f, vi t] [] M (qV (fun M' => fr (blk s) M M' ∧ TI M')) := by
  refine at_aload dx_23_0 rfl ?_
  refine at_getI 5 dx_23_1 hs rfl rfl (fun r1 => ?_)
  refine at_zltR dx_23_2 r1 (fun c2 => ?_) (fun c2 => ?_)
  · skip
    refine at_vretV dx_23_31 ?_
    refine ⟨by (repeat (first | exact fr_rf | refine fr_ums ?_ (by (try dsimp only [blk]); first | done | omega))), ?_⟩
    first | exact hT | exact TI_um (TI_um (TI_um (TI_um hT (by rw [st_c1 hs]; decide)) (by rw [st_c2 hs]; decide)) (by rw [st_c3 hs]; decide)) (by rw [hs]; decide)
  · skip
    refine at_aload dx_23_3 rfl ?_
    refine at_getI 5 dx_23_4 hs rfl rfl (fun r4 => ?_)
    refine at_const (x := 2) dx_23_5 rfl ?_
    refine at_cgeR dx_23_6 r4 (by decide) (fun c6 => ?_) (fun c6 => ?_)
    · skip
      refine at_vretV dx_23_31 ?_
      refine ⟨by (repeat (first | exact fr_rf | refine fr_ums ?_ (by (try dsimp only [blk]); first | done | omega))), ?_⟩
      first | exact hT | exact TI_um (TI_um (TI_um (TI_um hT (by rw [st_c1 hs]; decide)) (by rw [st_c2 hs]; decide)) (by rw [st_c3 hs]; decide)) (by rw [hs]; decide)
    · skip
      refine at_aload dx_23_7 rfl ?_
      refine at_getR dx_23_8 hs rfl (st_t6 hs) ?_
      refine at_aload dx_23_9 rfl ?_
      refine at_getI 5 dx_23_10 hs rfl rfl (fun r10 => ?_)
      refine at_iload dx_23_11 rfl ?_
      refine at_astI dx_23_12 (st_c1 hs) (st_n1 hs) (by first | omega | (simp (disch := omega) only [um_eq, um_k, um_j]; omega)) (by first | omega | (simp (disch := omega) only [um_eq, um_k, um_j]; omega)) hf ?_
      refine at_aload dx_23_13 rfl ?_
      refine at_getR dx_23_14 hs rfl (st_t7 hs) ?_
      refine at_aload dx_23_15 rfl ?_
      refine at_getI 5 dx_23_16 hs rfl rfl (fun r16 => ?_)
      refine at_iload dx_23_17 rfl ?_
      refine at_astI dx_23_18 (st_c2 hs) (st_n2 hs) (by first | omega | (simp (disch := omega) only [um_eq, um_k, um_j]; omega)) (by first | omega | (simp (disch := omega) only [um_eq, um_k, um_j]; omega)) ht ?_
      refine at_aload dx_23_19 rfl ?_
      refine at_getR dx_23_20 hs rfl (st_t8 hs) ?_
      refine at_aload dx_23_21 rfl ?_
      refine at_getI 5 dx_23_22 hs rfl rfl (fun r22 => ?_)
      refine at_const (x := 0) dx_23_23 rfl ?_
      refine at_astI dx_23_24 (st_c3 hs) (st_n3 hs) (by first | omega | (simp (disch := omega) only [um_eq, um_k, um_j]; omega)) (by first | omega | (simp (disch := omega) only [um_eq, um_k, um_j]; omega)) (by decide) ?_
      refine at_aload dx_23_25 rfl ?_
      refine at_dup dx_23_26 rfl ?_
      refine at_getI 5 dx_23_27 hs rfl rfl (fun r27 => ?_)
      refine at_const (x := 1) dx_23_28 rfl ?_
      refine at_addR dx_23_29 (by (simp (disch := omega) only [um_eq, um_k, um_j]; constructor <;> omega)) (fun r29 => ?_)
      refine at_putI 5 dx_23_30 hs rfl rfl r29 ?_
      refine at_vretV dx_23_31 ?_
      refine ⟨by (repeat (first | exact fr_rf | refine fr_ums ?_ (by (try dsimp only [blk]); first | done | omega))), ?_⟩
      first | exact hT | exact TI_um (TI_um (TI_um (TI_um hT (by rw [st_c1 hs]; decide)) (by rw [st_c2 hs]; decide)) (by rw [st_c3 hs]; decide)) (by rw [hs]; decide)

set_option maxRecDepth 100000 in
set_option maxHeartbeats 4000000 in
theorem c_addPut {X : scr} {M : mem} {s : Nat} {t : Int} (hs : ly_c s = 4) (ht : inR t) (hT : TI M) : At X 0 24 0 [vr s, vi t] [] M (qV (fun M' => fr (blk s) M M' ∧ TI M')) := by
  refine at_aload dx_24_0 rfl ?_
  refine at_getI 5 dx_24_1 hs rfl rfl (fun r1 => ?_)
  refine at_zleR dx_24_2 r1 (fun c2 => ?_) (fun c2 => ?_)
  · skip
    refine at_vretV dx_24_22 ?_
    first | exact ⟨fr_rf, hT⟩ | exact ⟨fr_ums (fr_le e1 (fun q h => by (try dsimp only [blk] at h ⊢); first | done | omega)) (by (try dsimp only [blk]); first | done | omega), TI_um e3 (by rw [st_c3 hs]; decide)⟩
  · skip
    refine at_aload dx_24_3 rfl ?_
    refine at_getI 5 dx_24_4 hs rfl rfl (fun r4 => ?_)
    refine at_const (x := 2) dx_24_5 rfl ?_
    refine at_cgtR dx_24_6 r4 (by decide) (fun c6 => ?_) (fun c6 => ?_)
    · skip
      refine at_vretV dx_24_22 ?_
      first | exact ⟨fr_rf, hT⟩ | exact ⟨fr_ums (fr_le e1 (fun q h => by (try dsimp only [blk] at h ⊢); first | done | omega)) (by (try dsimp only [blk]); first | done | omega), TI_um e3 (by rw [st_c3 hs]; decide)⟩
    · skip
      refine at_aload dx_24_7 rfl ?_
      refine at_getR dx_24_8 hs rfl (st_t10 hs) ?_
      refine at_iload dx_24_9 rfl ?_
      refine at_callVV dx_24_10 rfl (st_c6 hs) rfl (c_add (st_c6 hs) ht (hT _ (st_c6 hs))) ?_
      rintro _ rfl
      have e1 := addM_fr M (s + 6) t
      have e2 : addM M (s + 6) t s 5 = M s 5 := e1 _ _ (by omega)
      have e3 : TI (addM M (s + 6) t) := TI_fr hT e1 (fun k hk he => by
        rcases he with rfl | rfl
        · exact addM_I (hT _ hk)
        · exact absurd (tk_e hk) (by have := st_ev hs; omega))
      refine at_aload dx_24_11 rfl ?_
      refine at_getR dx_24_12 hs rfl (st_t8 hs) ?_
      refine at_aload dx_24_13 rfl ?_
      refine at_getI 5 dx_24_14 hs rfl rfl (fun r14 => ?_)
      refine at_const (x := 1) dx_24_15 rfl ?_
      refine at_subR dx_24_16 (by (rw [e2]; constructor <;> omega)) (fun r16 => ?_)
      refine at_dup2 dx_24_17 rfl rfl ?_
      refine at_aldI dx_24_18 (st_c3 hs) (st_n3 hs) (by omega) (by omega) (fun r18 => ?_)
      refine at_const (x := 1) dx_24_19 rfl ?_
      refine at_addW dx_24_20 ?_
      refine at_astI dx_24_21 (st_c3 hs) (st_n3 hs) (by omega) (by omega) (inR_wr _) ?_
      refine at_vretV dx_24_22 ?_
      first | exact ⟨fr_rf, hT⟩ | exact ⟨fr_ums (fr_le e1 (fun q h => by (try dsimp only [blk] at h ⊢); first | done | omega)) (by (try dsimp only [blk]); first | done | omega), TI_um e3 (by rw [st_c3 hs]; decide)⟩

set_option maxRecDepth 100000 in
set_option maxHeartbeats 4000000 in
theorem c_becomeMarking {X : scr} {M : mem} {s : Nat} {f t b z : Int} (hs : ly_c s = 4) (hf : inR f) (ht : inR t) (hb : inR b) (hz : z = 0 ∨ z = 1) (rz : inR z) (hT : TI M) : At X 0 25 0 [vr s, vi f, vi t, vi b, vi z] [] M (qV (fun M' => fr (blk s) M M' ∧ TI M')) := by
  refine at_aload dx_25_0 rfl ?_
  refine at_callVV dx_25_1 rfl hs rfl (c_becomeChange hs) ?_
  rintro _ rfl
  refine at_aload dx_25_2 rfl ?_
  refine at_const (x := 1) dx_25_3 rfl ?_
  refine at_putZ 0 dx_25_4 hs rfl rfl (Or.inr rfl) ?_
  refine at_aload dx_25_5 rfl ?_
  refine at_iload dx_25_6 rfl ?_
  refine at_putI 1 dx_25_7 hs rfl rfl hf ?_
  refine at_aload dx_25_8 rfl ?_
  refine at_iload dx_25_9 rfl ?_
  refine at_putI 2 dx_25_10 hs rfl rfl ht ?_
  refine at_aload dx_25_11 rfl ?_
  refine at_iload dx_25_12 rfl ?_
  refine at_putI 3 dx_25_13 hs rfl rfl hb ?_
  refine at_aload dx_25_14 rfl ?_
  refine at_iload dx_25_15 rfl ?_
  refine at_putZ 4 dx_25_16 hs rfl rfl hz ?_
  refine at_vretV dx_25_17 ?_
  refine ⟨by (repeat (first | exact fr_rf | refine fr_ums ?_ (by (try dsimp only [blk]); first | done | omega))), ?_⟩
  refine TI_fr (P := fun q => q = s ∨ q = s + 4 ∨ q = s + 6) hT (by (repeat (first | exact fr_rf | refine fr_ums ?_ (by (try dsimp only [blk]); first | done | omega)))) (fun k hk he => ?_)
  have := hT k hk
  rcases he with rfl | rfl | rfl
  · rw [hs] at hk; exact absurd hk (by decide)
  · unfold tkI; simp (disch := omega) only [um_eq, um_k, um_j]; omega
  · unfold tkI; simp (disch := omega) only [um_eq, um_k, um_j]; omega

set_option maxRecDepth 100000 in
set_option maxHeartbeats 4000000 in
theorem c_putStart {X : scr} {M : mem} {s : Nat} {r : Int} (hs : ly_c s = 4) (hr : inR r) : At X 0 28 0 [vr s, vi r] [] M (qI (fun x M' => M' = M ∧ x = psM M s r)) := by
  refine at_iload dx_28_0 rfl ?_
  refine at_zneR dx_28_1 hr (fun c1 => ?_) (fun c1 => ?_)
  · skip
    refine at_aload dx_28_7 rfl ?_
    refine at_getR dx_28_8 hs rfl (st_t6 hs) ?_
    refine at_const (x := 1) dx_28_9 rfl ?_
    refine at_aldI dx_28_10 (st_c1 hs) (st_n1 hs) (by decide) (by decide) (fun r10 => ?_)
    refine at_aload dx_28_11 rfl ?_
    refine at_getR dx_28_12 hs rfl (st_t8 hs) ?_
    refine at_const (x := 0) dx_28_13 rfl ?_
    refine at_aldI dx_28_14 (st_c3 hs) (st_n3 hs) (by decide) (by decide) (fun r14 => ?_)
    refine at_addW dx_28_15 ?_
    refine at_aload dx_28_16 rfl ?_
    refine at_getR dx_28_17 hs rfl (st_t7 hs) ?_
    refine at_const (x := 0) dx_28_18 rfl ?_
    refine at_aldI dx_28_19 (st_c2 hs) (st_n2 hs) (by decide) (by decide) (fun r19 => ?_)
    refine at_subW dx_28_20 ?_
    refine at_iretI dx_28_21 (inR_wr _) ?_
    unfold psM; first | (rw [if_pos (by omega)]; exact ⟨rfl, rfl⟩) | (rw [if_neg (by omega)]; exact ⟨rfl, rfl⟩)
  · skip
    refine at_aload dx_28_2 rfl ?_
    refine at_getR dx_28_3 hs rfl (st_t6 hs) ?_
    refine at_const (x := 0) dx_28_4 rfl ?_
    refine at_aldI dx_28_5 (st_c1 hs) (st_n1 hs) (by decide) (by decide) (fun r5 => ?_)
    refine at_goto dx_28_6 ?_
    refine at_iretI dx_28_21 r5 ?_
    unfold psM; first | (rw [if_pos (by omega)]; exact ⟨rfl, rfl⟩) | (rw [if_neg (by omega)]; exact ⟨rfl, rfl⟩)

set_option maxRecDepth 100000 in
set_option maxHeartbeats 4000000 in
theorem c_stepBecome {X : scr} {M : mem} {s o : Nat} (hs : ly_c s = 4) (ho : ly_c o = 4) (hne : s ≠ o) (hT : TI M) : At X 0 26 0 [vr s, vr o] [] M (qV (fun M' => fr (blk s) M M' ∧ TI M' ∧ sv M' s = sv M o ∧ tk M' (s + 4) = tk M (o + 4))) := by
  have hd := st_dis hs ho hne
  have hes := st_ev hs
  refine at_bits (fun hbit => ?_)
  have b0 : M o 0 = 0 ∨ M o 0 = 1 := hbit o 0 (by rw [ho]; rfl)
  have b4 : M o 4 = 0 ∨ M o 4 = 1 := hbit o 4 (by rw [ho]; rfl)
  refine at_aload dx_26_0 rfl ?_
  refine at_aload dx_26_1 rfl ?_
  refine at_getI 0 dx_26_2 ho rfl rfl (fun r2 => ?_)
  refine at_putZ 0 dx_26_3 hs rfl rfl b0 ?_
  refine at_aload dx_26_4 rfl ?_
  refine at_aload dx_26_5 rfl ?_
  refine at_getI 1 dx_26_6 ho rfl rfl (fun r6 => ?_)
  simp (disch := omega) only [um_k] at r6 ⊢
  refine at_putI 1 dx_26_7 hs rfl rfl r6 ?_
  refine at_aload dx_26_8 rfl ?_
  refine at_aload dx_26_9 rfl ?_
  refine at_getI 2 dx_26_10 ho rfl rfl (fun r10 => ?_)
  simp (disch := omega) only [um_k] at r10 ⊢
  refine at_putI 2 dx_26_11 hs rfl rfl r10 ?_
  refine at_aload dx_26_12 rfl ?_
  refine at_aload dx_26_13 rfl ?_
  refine at_getI 3 dx_26_14 ho rfl rfl (fun r14 => ?_)
  simp (disch := omega) only [um_k] at r14 ⊢
  refine at_putI 3 dx_26_15 hs rfl rfl r14 ?_
  refine at_aload dx_26_16 rfl ?_
  refine at_aload dx_26_17 rfl ?_
  refine at_getI 4 dx_26_18 ho rfl rfl (fun r18 => ?_)
  simp (disch := omega) only [um_k] at r18 ⊢
  refine at_putZ 4 dx_26_19 hs rfl rfl b4 ?_
  refine at_aload dx_26_20 rfl ?_
  refine at_aload dx_26_21 rfl ?_
  refine at_getI 5 dx_26_22 ho rfl rfl (fun r22 => ?_)
  simp (disch := omega) only [um_k] at r22 ⊢
  refine at_putI 5 dx_26_23 hs rfl rfl r22 ?_
  refine at_const (x := 0) dx_26_24 rfl ?_
  refine at_istore dx_26_25 ?_
  refine at_iload dx_26_26 rfl ?_
  refine at_const (x := 2) dx_26_27 rfl ?_
  refine at_cgeR dx_26_28 (by decide) (by decide) (fun c => absurd c (by decide)) (fun _ => ?_)
  refine at_aload dx_26_29 rfl ?_
  refine at_getR dx_26_30 hs rfl (st_t6 hs) ?_
  refine at_iload dx_26_31 rfl ?_
  refine at_aload dx_26_32 rfl ?_
  refine at_getR dx_26_33 ho rfl (st_t6 ho) ?_
  refine at_iload dx_26_34 rfl ?_
  refine at_aldI dx_26_35 (st_c1 ho) (st_n1 ho) (by decide) (by decide) (fun r35 => ?_)
  simp (disch := omega) only [um_k] at r35 ⊢
  refine at_astI dx_26_36 (st_c1 hs) (st_n1 hs) (by decide) (by decide) r35 ?_
  refine at_aload dx_26_37 rfl ?_
  refine at_getR dx_26_38 hs rfl (st_t7 hs) ?_
  refine at_iload dx_26_39 rfl ?_
  refine at_aload dx_26_40 rfl ?_
  refine at_getR dx_26_41 ho rfl (st_t7 ho) ?_
  refine at_iload dx_26_42 rfl ?_
  refine at_aldI dx_26_43 (st_c2 ho) (st_n2 ho) (by decide) (by decide) (fun r43 => ?_)
  simp (disch := omega) only [um_k] at r43 ⊢
  refine at_astI dx_26_44 (st_c2 hs) (st_n2 hs) (by decide) (by decide) r43 ?_
  refine at_aload dx_26_45 rfl ?_
  refine at_getR dx_26_46 hs rfl (st_t8 hs) ?_
  refine at_iload dx_26_47 rfl ?_
  refine at_aload dx_26_48 rfl ?_
  refine at_getR dx_26_49 ho rfl (st_t8 ho) ?_
  refine at_iload dx_26_50 rfl ?_
  refine at_aldI dx_26_51 (st_c3 ho) (st_n3 ho) (by decide) (by decide) (fun r51 => ?_)
  simp (disch := omega) only [um_k] at r51 ⊢
  refine at_astI dx_26_52 (st_c3 hs) (st_n3 hs) (by decide) (by decide) r51 ?_
  refine at_iincC (y := 1) (z := 1) dx_26_53 rfl rfl (by decide +kernel) ?_
  refine at_goto dx_26_54 ?_
  refine at_iload dx_26_26 rfl ?_
  refine at_const (x := 2) dx_26_27 rfl ?_
  refine at_cgeR dx_26_28 (by decide) (by decide) (fun c => absurd c (by decide)) (fun _ => ?_)
  refine at_aload dx_26_29 rfl ?_
  refine at_getR dx_26_30 hs rfl (st_t6 hs) ?_
  refine at_iload dx_26_31 rfl ?_
  refine at_aload dx_26_32 rfl ?_
  refine at_getR dx_26_33 ho rfl (st_t6 ho) ?_
  refine at_iload dx_26_34 rfl ?_
  refine at_aldI dx_26_35 (st_c1 ho) (st_n1 ho) (by decide) (by decide) (fun r35 => ?_)
  simp (disch := omega) only [um_k] at r35 ⊢
  refine at_astI dx_26_36 (st_c1 hs) (st_n1 hs) (by decide) (by decide) r35 ?_
  refine at_aload dx_26_37 rfl ?_
  refine at_getR dx_26_38 hs rfl (st_t7 hs) ?_
  refine at_iload dx_26_39 rfl ?_
  refine at_aload dx_26_40 rfl ?_
  refine at_getR dx_26_41 ho rfl (st_t7 ho) ?_
  refine at_iload dx_26_42 rfl ?_
  refine at_aldI dx_26_43 (st_c2 ho) (st_n2 ho) (by decide) (by decide) (fun r43 => ?_)
  simp (disch := omega) only [um_k] at r43 ⊢
  refine at_astI dx_26_44 (st_c2 hs) (st_n2 hs) (by decide) (by decide) r43 ?_
  refine at_aload dx_26_45 rfl ?_
  refine at_getR dx_26_46 hs rfl (st_t8 hs) ?_
  refine at_iload dx_26_47 rfl ?_
  refine at_aload dx_26_48 rfl ?_
  refine at_getR dx_26_49 ho rfl (st_t8 ho) ?_
  refine at_iload dx_26_50 rfl ?_
  refine at_aldI dx_26_51 (st_c3 ho) (st_n3 ho) (by decide) (by decide) (fun r51 => ?_)
  simp (disch := omega) only [um_k] at r51 ⊢
  refine at_astI dx_26_52 (st_c3 hs) (st_n3 hs) (by decide) (by decide) r51 ?_
  refine at_iincC (y := 1) (z := 2) dx_26_53 rfl rfl (by decide +kernel) ?_
  refine at_goto dx_26_54 ?_
  refine at_iload dx_26_26 rfl ?_
  refine at_const (x := 2) dx_26_27 rfl ?_
  refine at_cgeR dx_26_28 (by decide) (by decide) (fun _ => ?_) (fun c => absurd c (by decide))
  refine at_mem (fun M0 hM0 => ?_)
  have f0 : fr (fun q => q = s ∨ q = s + 1 ∨ q = s + 2 ∨ q = s + 3) M M0 := by rw [hM0]; (repeat (first | exact fr_rf | refine fr_ums ?_ (by (try dsimp only [blk]); first | done | omega)))
  refine at_aload dx_26_55 rfl ?_
  refine at_getR dx_26_56 hs rfl (st_t9 hs) ?_
  refine at_aload dx_26_57 rfl ?_
  refine at_getR dx_26_58 ho rfl (st_t9 ho) ?_
  refine at_callVV dx_26_59 rfl (st_c4 hs) rfl (c_become (st_c4 hs) (st_c4 ho) (by omega) (tkI_fr f0 (by (try dsimp only [blk]); first | done | omega) (hT _ (st_c4 ho)))) ?_
  rintro M1 ⟨f1, i1, t1⟩
  refine at_aload dx_26_60 rfl ?_
  refine at_getR dx_26_61 hs rfl (st_t10 hs) ?_
  refine at_aload dx_26_62 rfl ?_
  refine at_getR dx_26_63 ho rfl (st_t10 ho) ?_
  refine at_callVV dx_26_64 rfl (st_c6 hs) rfl (c_become (st_c6 hs) (st_c6 ho) (by omega) (tkI_fr f1 (by (try dsimp only [blk]); first | done | omega) (tkI_fr f0 (by (try dsimp only [blk]); first | done | omega) (hT _ (st_c6 ho))))) ?_
  rintro M2 ⟨f2, i2, t2⟩
  refine at_vretV dx_26_65 ?_
  have F := fr_tr (fr_le f0 (fun q h => show blk s q by (try dsimp only [blk] at h ⊢); omega)) (fr_tr (fr_le f1 (fun q h => show blk s q by (try dsimp only [blk] at h ⊢); omega)) (fr_le f2 (fun q h => show blk s q by (try dsimp only [blk] at h ⊢); omega)))
  refine ⟨F, ?_, ?_, ?_⟩
  · refine TI_fr hT F (fun k hk hP => ?_)
    by_cases e4 : k = s + 4
    · subst e4; exact tkI_fr f2 (by (try dsimp only [blk]); first | done | omega) i1
    · by_cases e6 : k = s + 6
      · subst e6; exact i2
      · have hk2 := tk_e hk
        have e0 : k ≠ s := fun e => by rw [e, hs] at hk; exact absurd hk (by decide)
        have e2 : k ≠ s + 2 := fun e => by rw [e, st_c2 hs] at hk; exact absurd hk (by decide)
        exact absurd hP (by unfold blk; omega)
  · have g : ∀ q j, q = s ∨ q = s + 1 ∨ q = s + 2 ∨ q = s + 3 → M2 q j = M0 q j := fun q j h => by
      rw [f2 q j (by (try dsimp only [blk]); first | done | omega), f1 q j (by (try dsimp only [blk]); first | done | omega)]
    unfold sv
    rw [t2, tk_fr f1 (by (try dsimp only [blk]); first | done | omega) (by (try dsimp only [blk]); first | done | omega), tk_fr f0 (by (try dsimp only [blk]); first | done | omega) (by (try dsimp only [blk]); first | done | omega)]
    rw [g s _ (by omega), g s _ (by omega), g s _ (by omega), g s _ (by omega), g s _ (by omega), g s _ (by omega), g (s + 1) _ (by omega), g (s + 1) _ (by omega), g (s + 2) _ (by omega), g (s + 2) _ (by omega), g (s + 3) _ (by omega), g (s + 3) _ (by omega), hM0]
    simp (disch := omega) only [um_eq, um_k, um_j]
  · rw [tk_fr f2 (by (try dsimp only [blk]); first | done | omega) (by (try dsimp only [blk]); first | done | omega), t1, tk_fr f0 (by (try dsimp only [blk]); first | done | omega) (by (try dsimp only [blk]); first | done | omega)]
