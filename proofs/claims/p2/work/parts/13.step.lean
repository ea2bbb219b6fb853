/-! ===== steps: whether one lies within, what it makes ===== -/
set_option maxRecDepth 100000 in
set_option maxHeartbeats 4000000 in
theorem c_markedToken {X : scr} {M : mem} {s : Nat} {t : Int} (hs : ly_c s = 4) (ht : inR t) : At X 0 33 0 [vr s, vi t] [] M (qI (fun x M' => M' = M ∧ x = mkT (M s 4) (M s 3) t)) := by
  refine at_iload dx_33_0 rfl ?_
  refine at_const (x := 100) dx_33_1 rfl ?_
  refine at_cgeR dx_33_2 ht (by decide) (fun c2 => ?_) (fun c2 => ?_)
  · skip
    refine at_aload dx_33_5 rfl ?_
    refine at_getI 4 dx_33_6 hs rfl rfl (fun r6 => ?_)
    refine at_zeqR dx_33_7 r6 (fun c7 => ?_) (fun c7 => ?_)
    · skip
      refine at_iload dx_33_13 rfl ?_
      refine at_aload dx_33_14 rfl ?_
      refine at_getI 3 dx_33_15 hs rfl rfl (fun r15 => ?_)
      refine at_const (x := -1) dx_33_16 rfl ?_
      refine at_xor dx_33_17 ?_
      refine at_and dx_33_18 ?_
      refine at_iretI dx_33_19 (inR_and _ _) ?_
      refine ⟨rfl, ?_⟩; unfold mkT; rw [if_neg (by omega)]; first | rw [if_pos c7] | rw [if_neg c7]
    · skip
      refine at_iload dx_33_8 rfl ?_
      refine at_aload dx_33_9 rfl ?_
      refine at_getI 3 dx_33_10 hs rfl rfl (fun r10 => ?_)
      refine at_or dx_33_11 ?_
      refine at_goto dx_33_12 ?_
      refine at_iretI dx_33_19 (inR_or _ _) ?_
      refine ⟨rfl, ?_⟩; unfold mkT; rw [if_neg (by omega)]; first | rw [if_pos c7] | rw [if_neg c7]
  · skip
    refine at_iload dx_33_3 rfl ?_
    refine at_iretI dx_33_4 ht ?_
    refine ⟨rfl, ?_⟩; unfold mkT; rw [if_pos c2]

set_option maxRecDepth 100000 in
set_option maxHeartbeats 4000000 in
theorem c_isWithin {X : scr} {M : mem} {s b : Nat} (hs : ly_c s = 4) (hb : ly_c b = 5) (hI : tkI M b) (him : M s 0 = 0) : At X 0 31 0 [vr s, vr b] [] M (qI (fun x M' => M' = M ∧ (x = 0 ∨ x = 1) ∧ (x = 1 ↔ okV (sv M s) (tk M b)))) := by
  have el : ((tk M b).length : Int) = M b 1 := by rw [tk_len]; omega
  refine at_const (x := 0) dx_31_0 rfl ?_
  refine at_istore dx_31_1 ?_
  refine at_aload dx_31_2 rfl ?_
  refine at_getI 1 dx_31_3 hb rfl rfl (fun r3 => ?_)
  refine at_istore dx_31_4 ?_
  refine at_const (x := 0) dx_31_5 rfl ?_
  refine at_istore dx_31_6 ?_
  refine at_iload dx_31_7 rfl ?_
  refine at_aload dx_31_8 rfl ?_
  refine at_getI 5 dx_31_9 hs rfl rfl (fun r9 => ?_)
  refine at_cgeR dx_31_10 (by decide) r9 (fun c10 => ?_) (fun c10 => ?_)
  · skip
    refine at_iload dx_31_51 rfl ?_
    refine at_aload dx_31_52 rfl ?_
    refine at_getI 1 dx_31_53 hb rfl rfl (fun r53 => ?_)
    refine at_cgtR dx_31_54 (by decide) r53 (fun c54 => ?_) (fun c54 => ?_)
    · skip
      refine at_const (x := 0) dx_31_60 rfl ?_
      refine at_zretI dx_31_61 (Or.inl rfl) ?_
      refine ⟨rfl, Or.inl rfl, ?_⟩
      unfold okV sv
      dsimp only
      rw [el, if_pos him]
      repeat' split
      all_goals first | omega | (simp; done)
    · skip
      refine at_iload dx_31_55 rfl ?_
      refine at_const (x := 60) dx_31_56 rfl ?_
      refine at_cgtR dx_31_57 r3 (by decide) (fun c57 => ?_) (fun c57 => ?_)
      · skip
        refine at_const (x := 0) dx_31_60 rfl ?_
        refine at_zretI dx_31_61 (Or.inl rfl) ?_
        refine ⟨rfl, Or.inl rfl, ?_⟩
        unfold okV sv
        dsimp only
        rw [el, if_pos him]
        repeat' split
        all_goals first | omega | (simp; done)
      · skip
        refine at_const (x := 1) dx_31_58 rfl ?_
        refine at_goto dx_31_59 ?_
        refine at_zretI dx_31_61 (Or.inr rfl) ?_
        refine ⟨rfl, Or.inr rfl, ?_⟩
        unfold okV sv
        dsimp only
        rw [el, if_pos him]
        repeat' split
        all_goals first | omega | (simp; done)
  · skip
    refine at_iload dx_31_11 rfl ?_
    refine at_const (x := 2) dx_31_12 rfl ?_
    refine at_cgeR dx_31_13 (by decide) (by decide) (fun c => absurd c (by decide)) (fun _ => ?_)
    refine at_aload dx_31_14 rfl ?_
    refine at_getR dx_31_15 hs rfl (st_t6 hs) ?_
    refine at_iload dx_31_16 rfl ?_
    refine at_aldI dx_31_17 (st_c1 hs) (st_n1 hs) (by decide) (by decide) (fun r17 => ?_)
    refine at_iload dx_31_18 rfl ?_
    refine at_cltR dx_31_19 r17 (by decide) (fun c19 => ?_) (fun c19 => ?_)
    · skip
      refine at_const (x := 0) dx_31_25 rfl ?_
      refine at_zretI dx_31_26 (Or.inl rfl) ?_
      refine ⟨rfl, Or.inl rfl, ?_⟩
      unfold okV sv
      dsimp only
      rw [el, if_pos him]
      repeat' split
      all_goals first | omega | (simp; done)
    · skip
      refine at_aload dx_31_20 rfl ?_
      refine at_getR dx_31_21 hs rfl (st_t7 hs) ?_
      refine at_iload dx_31_22 rfl ?_
      refine at_aldI dx_31_23 (st_c2 hs) (st_n2 hs) (by decide) (by decide) (fun r23 => ?_)
      refine at_zgeR dx_31_24 r23 (fun c24 => ?_) (fun c24 => ?_)
      · skip
        refine at_aload dx_31_27 rfl ?_
        refine at_getR dx_31_28 hs rfl (st_t6 hs) ?_
        refine at_iload dx_31_29 rfl ?_
        refine at_aldI dx_31_30 (st_c1 hs) (st_n1 hs) (by decide) (by decide) (fun r30 => ?_)
        refine at_aload dx_31_31 rfl ?_
        refine at_getR dx_31_32 hs rfl (st_t7 hs) ?_
        refine at_iload dx_31_33 rfl ?_
        refine at_aldI dx_31_34 (st_c2 hs) (st_n2 hs) (by decide) (by decide) (fun r34 => ?_)
        refine at_addW dx_31_35 ?_
        refine at_istore dx_31_36 ?_
        refine at_iload dx_31_37 rfl ?_
        refine at_aload dx_31_38 rfl ?_
        refine at_getR dx_31_39 hs rfl (st_t8 hs) ?_
        refine at_iload dx_31_40 rfl ?_
        refine at_aldI dx_31_41 (st_c3 hs) (st_n3 hs) (by decide) (by decide) (fun r41 => ?_)
        refine at_aload dx_31_42 rfl ?_
        refine at_getR dx_31_43 hs rfl (st_t7 hs) ?_
        refine at_iload dx_31_44 rfl ?_
        refine at_aldI dx_31_45 (st_c2 hs) (st_n2 hs) (by decide) (by decide) (fun r45 => ?_)
        refine at_subW dx_31_46 ?_
        refine at_addW dx_31_47 ?_
        refine at_istore dx_31_48 ?_
        refine at_iincC (y := 1) (z := 1) dx_31_49 rfl rfl (by decide +kernel) ?_
        refine at_goto dx_31_50 ?_
        refine at_iload dx_31_7 rfl ?_
        refine at_aload dx_31_8 rfl ?_
        refine at_getI 5 dx_31_9 hs rfl rfl (fun r9 => ?_)
        refine at_cgeR dx_31_10 (by decide) r9 (fun c10 => ?_) (fun c10 => ?_)
        · skip
          refine at_iload dx_31_51 rfl ?_
          refine at_aload dx_31_52 rfl ?_
          refine at_getI 1 dx_31_53 hb rfl rfl (fun r53 => ?_)
          refine at_cgtR dx_31_54 (inR_wr _) r53 (fun c54 => ?_) (fun c54 => ?_)
          · skip
            refine at_const (x := 0) dx_31_60 rfl ?_
            refine at_zretI dx_31_61 (Or.inl rfl) ?_
            refine ⟨rfl, Or.inl rfl, ?_⟩
            unfold okV sv
            dsimp only
            rw [el, if_pos him]
            repeat' split
            all_goals first | omega | (simp; done)
          · skip
            refine at_iload dx_31_55 rfl ?_
            refine at_const (x := 60) dx_31_56 rfl ?_
            refine at_cgtR dx_31_57 (inR_wr _) (by decide) (fun c57 => ?_) (fun c57 => ?_)
            · skip
              refine at_const (x := 0) dx_31_60 rfl ?_
              refine at_zretI dx_31_61 (Or.inl rfl) ?_
              refine ⟨rfl, Or.inl rfl, ?_⟩
              unfold okV sv
              dsimp only
              rw [el, if_pos him]
              repeat' split
              all_goals first | omega | (simp; done)
            · skip
              refine at_const (x := 1) dx_31_58 rfl ?_
              refine at_goto dx_31_59 ?_
              refine at_zretI dx_31_61 (Or.inr rfl) ?_
              refine ⟨rfl, Or.inr rfl, ?_⟩
              unfold okV sv
              dsimp only
              rw [el, if_pos him]
              repeat' split
              all_goals first | omega | (simp; done)
        · skip
          refine at_iload dx_31_11 rfl ?_
          refine at_const (x := 2) dx_31_12 rfl ?_
          refine at_cgeR dx_31_13 (by decide) (by decide) (fun c => absurd c (by decide)) (fun _ => ?_)
          refine at_aload dx_31_14 rfl ?_
          refine at_getR dx_31_15 hs rfl (st_t6 hs) ?_
          refine at_iload dx_31_16 rfl ?_
          refine at_aldI dx_31_17 (st_c1 hs) (st_n1 hs) (by decide) (by decide) (fun r17 => ?_)
          refine at_iload dx_31_18 rfl ?_
          refine at_cltR dx_31_19 r17 (inR_wr _) (fun c19 => ?_) (fun c19 => ?_)
          · skip
            refine at_const (x := 0) dx_31_25 rfl ?_
            refine at_zretI dx_31_26 (Or.inl rfl) ?_
            refine ⟨rfl, Or.inl rfl, ?_⟩
            unfold okV sv
            dsimp only
            rw [el, if_pos him]
            repeat' split
            all_goals first | omega | (simp; done)
          · skip
            refine at_aload dx_31_20 rfl ?_
            refine at_getR dx_31_21 hs rfl (st_t7 hs) ?_
            refine at_iload dx_31_22 rfl ?_
            refine at_aldI dx_31_23 (st_c2 hs) (st_n2 hs) (by decide) (by decide) (fun r23 => ?_)
            refine at_zgeR dx_31_24 r23 (fun c24 => ?_) (fun c24 => ?_)
            · skip
              refine at_aload dx_31_27 rfl ?_
              refine at_getR dx_31_28 hs rfl (st_t6 hs) ?_
              refine at_iload dx_31_29 rfl ?_
              refine at_aldI dx_31_30 (st_c1 hs) (st_n1 hs) (by decide) (by decide) (fun r30 => ?_)
              refine at_aload dx_31_31 rfl ?_
              refine at_getR dx_31_32 hs rfl (st_t7 hs) ?_
              refine at_iload dx_31_33 rfl ?_
              refine at_aldI dx_31_34 (st_c2 hs) (st_n2 hs) (by decide) (by decide) (fun r34 => ?_)
              refine at_addW dx_31_35 ?_
              refine at_istore dx_31_36 ?_
              refine at_iload dx_31_37 rfl ?_
              refine at_aload dx_31_38 rfl ?_
              refine at_getR dx_31_39 hs rfl (st_t8 hs) ?_
              refine at_iload dx_31_40 rfl ?_
              refine at_aldI dx_31_41 (st_c3 hs) (st_n3 hs) (by decide) (by decide) (fun r41 => ?_)
              refine at_aload dx_31_42 rfl ?_
              refine at_getR dx_31_43 hs rfl (st_t7 hs) ?_
              refine at_iload dx_31_44 rfl ?_
              refine at_aldI dx_31_45 (st_c2 hs) (st_n2 hs) (by decide) (by decide) (fun r45 => ?_)
              refine at_subW dx_31_46 ?_
              refine at_addW dx_31_47 ?_
              refine at_istore dx_31_48 ?_
              refine at_iincC (y := 1) (z := 2) dx_31_49 rfl rfl (by decide +kernel) ?_
              refine at_goto dx_31_50 ?_
              refine at_iload dx_31_7 rfl ?_
              refine at_aload dx_31_8 rfl ?_
              refine at_getI 5 dx_31_9 hs rfl rfl (fun r9 => ?_)
              refine at_cgeR dx_31_10 (by decide) r9 (fun c10 => ?_) (fun c10 => ?_)
              · skip
                refine at_iload dx_31_51 rfl ?_
                refine at_aload dx_31_52 rfl ?_
                refine at_getI 1 dx_31_53 hb rfl rfl (fun r53 => ?_)
                refine at_cgtR dx_31_54 (inR_wr _) r53 (fun c54 => ?_) (fun c54 => ?_)
                · skip
                  refine at_const (x := 0) dx_31_60 rfl ?_
                  refine at_zretI dx_31_61 (Or.inl rfl) ?_
                  refine ⟨rfl, Or.inl rfl, ?_⟩
                  unfold okV sv
                  dsimp only
                  rw [el, if_pos him]
                  repeat' split
                  all_goals first | omega | (simp; done)
                · skip
                  refine at_iload dx_31_55 rfl ?_
                  refine at_const (x := 60) dx_31_56 rfl ?_
                  refine at_cgtR dx_31_57 (inR_wr _) (by decide) (fun c57 => ?_) (fun c57 => ?_)
                  · skip
                    refine at_const (x := 0) dx_31_60 rfl ?_
                    refine at_zretI dx_31_61 (Or.inl rfl) ?_
                    refine ⟨rfl, Or.inl rfl, ?_⟩
                    unfold okV sv
                    dsimp only
                    rw [el, if_pos him]
                    repeat' split
                    all_goals first | omega | (simp; done)
                  · skip
                    refine at_const (x := 1) dx_31_58 rfl ?_
                    refine at_goto dx_31_59 ?_
                    refine at_zretI dx_31_61 (Or.inr rfl) ?_
                    refine ⟨rfl, Or.inr rfl, ?_⟩
                    unfold okV sv
                    dsimp only
                    rw [el, if_pos him]
                    repeat' split
                    all_goals first | omega | (simp; done)
              · skip
                refine at_iload dx_31_11 rfl ?_
                refine at_const (x := 2) dx_31_12 rfl ?_
                refine at_cgeR dx_31_13 (by decide) (by decide) (fun _ => ?_) (fun c => absurd c (by decide))
                refine at_iload dx_31_51 rfl ?_
                refine at_aload dx_31_52 rfl ?_
                refine at_getI 1 dx_31_53 hb rfl rfl (fun r53 => ?_)
                refine at_cgtR dx_31_54 (inR_wr _) r53 (fun c54 => ?_) (fun c54 => ?_)
                · skip
                  refine at_const (x := 0) dx_31_60 rfl ?_
                  refine at_zretI dx_31_61 (Or.inl rfl) ?_
                  refine ⟨rfl, Or.inl rfl, ?_⟩
                  unfold okV sv
                  dsimp only
                  rw [el, if_pos him]
                  repeat' split
                  all_goals first | omega | (simp; done)
                · skip
                  refine at_iload dx_31_55 rfl ?_
                  refine at_const (x := 60) dx_31_56 rfl ?_
                  refine at_cgtR dx_31_57 (inR_wr _) (by decide) (fun c57 => ?_) (fun c57 => ?_)
                  · skip
                    refine at_const (x := 0) dx_31_60 rfl ?_
                    refine at_zretI dx_31_61 (Or.inl rfl) ?_
                    refine ⟨rfl, Or.inl rfl, ?_⟩
                    unfold okV sv
                    dsimp only
                    rw [el, if_pos him]
                    repeat' split
                    all_goals first | omega | (simp; done)
                  · skip
                    refine at_const (x := 1) dx_31_58 rfl ?_
                    refine at_goto dx_31_59 ?_
                    refine at_zretI dx_31_61 (Or.inr rfl) ?_
                    refine ⟨rfl, Or.inr rfl, ?_⟩
                    unfold okV sv
                    dsimp only
                    rw [el, if_pos him]
                    repeat' split
                    all_goals first | omega | (simp; done)
            · skip
              refine at_const (x := 0) dx_31_25 rfl ?_
              refine at_zretI dx_31_26 (Or.inl rfl) ?_
              refine ⟨rfl, Or.inl rfl, ?_⟩
              unfold okV sv
              dsimp only
              rw [el, if_pos him]
              repeat' split
              all_goals first | omega | (simp; done)
      · skip
        refine at_const (x := 0) dx_31_25 rfl ?_
        refine at_zretI dx_31_26 (Or.inl rfl) ?_
        refine ⟨rfl, Or.inl rfl, ?_⟩
        unfold okV sv
        dsimp only
        rw [el, if_pos him]
        repeat' split
        all_goals first | omega | (simp; done)

set_option maxRecDepth 100000 in
set_option maxHeartbeats 4000000 in
theorem c_markTokens {X : scr} {M : mem} {s b a : Nat} (hs : ly_c s = 4) (hb : ly_c b = 5) (ha : ly_c a = 5) (hne : b ≠ a) (hI : tkI M b) : At X 0 32 0 [vr s, vr b, vr a] [] M (qV (fun M' => fr (fun q => q = a ∨ q = a + 1) M M' ∧ tkI M' a ∧ tk M' a = mkL (M s 4) (M s 3) (M s 1) (M s 2) (tk M b))) := by
  have ea := tk_e ha
  have eb := tk_e hb
  have n0 : s ≠ a := fun e => by rw [e, ha] at hs; exact absurd hs (by decide)
  have n1 : s ≠ a + 1 := fun e => by rw [e, tk_c ha] at hs; exact absurd hs (by decide)
  have lp : ∀ (n : Nat) (i : Int) (M1 : mem) (ri : inR i) (hi : 0 ≤ i) (hn : (M b 1 - i).toNat = n) (h1 : fr (fun q => q = a ∨ q = a + 1) M M1) (h2 : tkI M1 a) (h3 : tk M1 a = (List.range i.toNat).map (fun i : Nat => if M s 1 ≤ (i : Int) ∧ (i : Int) < M s 2 then mkT (M s 4) (M s 3) (atL (tk M b) i) else atL (tk M b) i)) (h4 : i ≤ M b 1), At X 0 32 4 [vr s, vr b, vr a, vi i] [] M1 (qV (fun M' => fr (fun q => q = a ∨ q = a + 1) M M' ∧ tkI M' a ∧ tk M' a = mkL (M s 4) (M s 3) (M s 1) (M s 2) (tk M b))) := by
    intro n
    induction n using Nat.strongRecOn with
    | ind n ih =>
    intro i M1 ri hi hn h1 h2 h3 h4
    have g0 : ∀ j, M1 s j = M s j := fun j => h1 s j (by (try dsimp only [blk]); first | done | omega)
    have gb : M1 b 1 = M b 1 := h1 b 1 (by (try dsimp only [blk]); first | done | omega)
    have hb1 : tkI M1 b := tkI_fr h1 (by (try dsimp only [blk]); first | done | omega) hI
    have e3 : tk M1 b = tk M b := tk_fr h1 (by (try dsimp only [blk]); first | done | omega) (by (try dsimp only [blk]); first | done | omega)
    refine at_iload dx_32_4 rfl ?_
    refine at_aload dx_32_5 rfl ?_
    refine at_getI 1 dx_32_6 hb rfl rfl (fun r6 => ?_)
    refine at_cgeR dx_32_7 ri r6 (fun c7 => ?_) (fun c7 => ?_)
    · skip
      refine at_vretV dx_32_29 ?_
      have hq : i = M b 1 := by omega
      subst hq
      refine ⟨h1, h2, ?_⟩
      rw [h3]; unfold mkL; rw [tk_len]
    · skip
      refine at_aload dx_32_8 rfl ?_
      refine at_iload dx_32_9 rfl ?_
      refine at_callVI dx_32_10 rfl hb rfl (c_at hb ri hb1) ?_
      rintro x10 M9 r10 ⟨e9, h10⟩; replace e9 := e9.symm; subst e9
      refine at_istore dx_32_11 ?_
      refine at_aload dx_32_12 rfl ?_
      refine at_iload dx_32_13 rfl ?_
      refine at_aload dx_32_14 rfl ?_
      refine at_getI 1 dx_32_15 hs rfl rfl (fun r15 => ?_)
      refine at_cltR dx_32_16 ri r15 (fun c16 => ?_) (fun c16 => ?_)
      · skip
        refine at_iload dx_32_25 rfl ?_
        refine at_callVV dx_32_26 rfl ha rfl (c_add ha r10 h2) ?_
        rintro _ rfl
        refine at_iincR (y := 1) dx_32_27 rfl rfl (by constructor <;> omega) (fun r27 => ?_)
        refine at_goto dx_32_28 ?_
        refine at_wk (ls := [vr s, vr b, vr a, vi _]) ⟨Or.inl rfl, Or.inl rfl, Or.inl rfl, Or.inl rfl, trivial⟩ ?_
        refine ih _ (by omega) _ _ r27 (by omega) rfl (fr_tr h1 (addM_fr _ _ _)) (addM_I h2) ?_ (by omega)
        rw [addM_tk h2, h3, List.take_of_length_le (by rw [List.length_append, List.length_map, List.length_range]; show _ + 1 ≤ 60; omega), show (i + 1).toNat = i.toNat + 1 by omega, List.range_succ, List.map_append, List.map_cons, List.map_nil, Int.toNat_of_nonneg hi]
        refine congrArg (fun z => _ ++ [z]) ?_
        have z1 := g0 1; have z2 := g0 2; have z3 := g0 3; have z4 := g0 4
        first
        | (rw [if_pos (by omega), h23, z3, z4, h10, e3]; done)
        | (rw [if_neg (by omega), h10, e3]; done)
      · skip
        refine at_iload dx_32_17 rfl ?_
        refine at_aload dx_32_18 rfl ?_
        refine at_getI 2 dx_32_19 hs rfl rfl (fun r19 => ?_)
        refine at_cgeR dx_32_20 ri r19 (fun c20 => ?_) (fun c20 => ?_)
        · skip
          refine at_iload dx_32_25 rfl ?_
          refine at_callVV dx_32_26 rfl ha rfl (c_add ha r10 h2) ?_
          rintro _ rfl
          refine at_iincR (y := 1) dx_32_27 rfl rfl (by constructor <;> omega) (fun r27 => ?_)
          refine at_goto dx_32_28 ?_
          refine at_wk (ls := [vr s, vr b, vr a, vi _]) ⟨Or.inl rfl, Or.inl rfl, Or.inl rfl, Or.inl rfl, trivial⟩ ?_
          refine ih _ (by omega) _ _ r27 (by omega) rfl (fr_tr h1 (addM_fr _ _ _)) (addM_I h2) ?_ (by omega)
          rw [addM_tk h2, h3, List.take_of_length_le (by rw [List.length_append, List.length_map, List.length_range]; show _ + 1 ≤ 60; omega), show (i + 1).toNat = i.toNat + 1 by omega, List.range_succ, List.map_append, List.map_cons, List.map_nil, Int.toNat_of_nonneg hi]
          refine congrArg (fun z => _ ++ [z]) ?_
          have z1 := g0 1; have z2 := g0 2; have z3 := g0 3; have z4 := g0 4
          first
          | (rw [if_pos (by omega), h23, z3, z4, h10, e3]; done)
          | (rw [if_neg (by omega), h10, e3]; done)
        · skip
          refine at_aload dx_32_21 rfl ?_
          refine at_iload dx_32_22 rfl ?_
          refine at_callVI dx_32_23 rfl hs rfl (c_markedToken hs r10) ?_
          rintro x23 M9 r23 ⟨e9, h23⟩; replace e9 := e9.symm; subst e9
          refine at_goto dx_32_24 ?_
          refine at_callVV dx_32_26 rfl ha rfl (c_add ha r23 h2) ?_
          rintro _ rfl
          refine at_iincR (y := 1) dx_32_27 rfl rfl (by constructor <;> omega) (fun r27 => ?_)
          refine at_goto dx_32_28 ?_
          refine at_wk (ls := [vr s, vr b, vr a, vi _]) ⟨Or.inl rfl, Or.inl rfl, Or.inl rfl, Or.inl rfl, trivial⟩ ?_
          refine ih _ (by omega) _ _ r27 (by omega) rfl (fr_tr h1 (addM_fr _ _ _)) (addM_I h2) ?_ (by omega)
          rw [addM_tk h2, h3, List.take_of_length_le (by rw [List.length_append, List.length_map, List.length_range]; show _ + 1 ≤ 60; omega), show (i + 1).toNat = i.toNat + 1 by omega, List.range_succ, List.map_append, List.map_cons, List.map_nil, Int.toNat_of_nonneg hi]
          refine congrArg (fun z => _ ++ [z]) ?_
          have z1 := g0 1; have z2 := g0 2; have z3 := g0 3; have z4 := g0 4
          first
          | (rw [if_pos (by omega), h23, z3, z4, h10, e3]; done)
          | (rw [if_neg (by omega), h10, e3]; done)
  refine at_aload dx_32_0 rfl ?_
  refine at_callVV dx_32_1 rfl ha rfl (c_clear ha) ?_
  rintro _ rfl
  refine at_const (x := 0) dx_32_2 rfl ?_
  refine at_istore dx_32_3 ?_
  exact lp _ 0 _ (by decide) (by decide) rfl (fr_um (Or.inl rfl)) (by unfold tkI; rw [um_eq]; omega) (by unfold tk; rw [um_eq]; rfl) hI.1
