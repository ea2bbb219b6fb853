/-! ===== steps: what applying comes to ===== -/
set_option maxRecDepth 100000 in
set_option maxHeartbeats 4000000 in
theorem c_changesMarks {X : scr} {M : mem} {s b : Nat} (hs : ly_c s = 4) (hb : ly_c b = 5) (hI : tkI M b) : At X 0 34 0 [vr s, vr b] [] M (qI (fun x M' => M' = M ∧ (x = 0 ∨ x = 1))) := by
  have lp : ∀ (n : Nat) (i : Int) (ri : inR i) (hn : (M s 2 - i).toNat = n), At X 0 34 3 [vr s, vr b, vi i] [] M (qI (fun x M' => M' = M ∧ (x = 0 ∨ x = 1))) := by
    intro n
    induction n using Nat.strongRecOn with
    | ind n ih =>
    intro i ri hn
    refine at_iload dx_34_3 rfl ?_
    refine at_aload dx_34_4 rfl ?_
    refine at_getI 2 dx_34_5 hs rfl rfl (fun r5 => ?_)
    refine at_cgeR dx_34_6 ri r5 (fun c6 => ?_) (fun c6 => ?_)
    · skip
      refine at_const (x := 0) dx_34_20 rfl ?_
      refine at_zretI dx_34_21 (Or.inl rfl) ?_
      exact ⟨rfl, Or.inl rfl⟩
    · skip
      refine at_aload dx_34_7 rfl ?_
      refine at_iload dx_34_8 rfl ?_
      refine at_callVI dx_34_9 rfl hb rfl (c_at hb ri hI) ?_
      rintro x9 M9 r9 ⟨e9, h9⟩; replace e9 := e9.symm; subst e9
      refine at_istore dx_34_10 ?_
      refine at_aload dx_34_11 rfl ?_
      refine at_iload dx_34_12 rfl ?_
      refine at_callVI dx_34_13 rfl hs rfl (c_markedToken hs r9) ?_
      rintro x13 M9 r13 ⟨e9, h13⟩; replace e9 := e9.symm; subst e9
      refine at_iload dx_34_14 rfl ?_
      refine at_ceqR dx_34_15 r13 r9 (fun c15 => ?_) (fun c15 => ?_)
      · skip
        refine at_iincR (y := 1) dx_34_18 rfl rfl (by constructor <;> omega) (fun r18 => ?_)
        refine at_goto dx_34_19 ?_
        refine at_wk (ls := [vr s, vr b, vi _]) ⟨Or.inl rfl, Or.inl rfl, Or.inl rfl, trivial⟩ ?_
        exact ih _ (by omega) _ r18 rfl
      · skip
        refine at_const (x := 1) dx_34_16 rfl ?_
        refine at_zretI dx_34_17 (Or.inr rfl) ?_
        exact ⟨rfl, Or.inr rfl⟩
  refine at_aload dx_34_0 rfl ?_
  refine at_getI 1 dx_34_1 hs rfl rfl (fun r1 => ?_)
  refine at_istore dx_34_2 ?_
  exact lp _ _ r1 rfl

set_option maxRecDepth 100000 in
set_option maxHeartbeats 4000000 in
theorem c_applyTo {X : scr} {M : mem} {s b a : Nat} (hs : ly_c s = 4) (hb : ly_c b = 5) (ha : ly_c a = 5) (hne : a ≠ b) (h1 : b ≠ s + 4) (h2 : b ≠ s + 6) (h3 : a ≠ s + 4) (h4 : a ≠ s + 6) (hT : TI M) : At X 0 30 0 [vr s, vr b, vr a] [] M (qI (fun x M' => fr (fun q => q = a ∨ q = a + 1 ∨ q = s + 4 ∨ q = s + 5) M M' ∧ TI M' ∧ (x = 0 ∨ x = 1) ∧ (x = 1 ↔ okV (sv M s) (tk M b)) ∧ (x = 1 → tk M' a = apV (sv M s) (tk M b)))) := by
  have ea := tk_e ha
  have ebb := tk_e hb
  have es := st_ev hs
  have n0 : a ≠ s := fun e => by rw [e, hs] at ha; exact absurd ha (by decide)
  have n2 : a ≠ s + 2 := fun e => by rw [e, st_c2 hs] at ha; exact absurd ha (by decide)
  have n3 : b ≠ s := fun e => by rw [e, hs] at hb; exact absurd hb (by decide)
  have n4 : b ≠ s + 2 := fun e => by rw [e, st_c2 hs] at hb; exact absurd hb (by decide)
  have el : ((tk M b).length : Int) = M b 1 := by have := hT b hb; rw [tk_len]; omega
  have F0 : fr (fun q => q = a ∨ q = a + 1 ∨ q = s + 4 ∨ q = s + 5) M (um (um M a 1 0) (s + 4) 1 0) := by (repeat (first | exact fr_rf | refine fr_ums ?_ (by (try dsimp only [blk]); first | done | omega)))
  refine at_aload dx_30_0 rfl ?_
  refine at_getI 0 dx_30_1 hs rfl rfl (fun r1 => ?_)
  refine at_zeqR dx_30_2 r1 (fun c2 => ?_) (fun c2 => ?_)
  · skip
    refine at_aload dx_30_9 rfl ?_
    refine at_aload dx_30_10 rfl ?_
    refine at_callVI dx_30_11 rfl hs rfl (c_isWithin hs hb (hT b hb) c2) ?_
    rintro x11 M9 r11 ⟨e9, hx, hw⟩; replace e9 := e9.symm; subst e9
    refine at_zneR dx_30_12 r11 (fun c12 => ?_) (fun c12 => ?_)
    · skip
      refine at_aload dx_30_15 rfl ?_
      refine at_callVV dx_30_16 rfl ha rfl (c_clear ha) ?_
      rintro _ rfl
      refine at_aload dx_30_17 rfl ?_
      refine at_getR dx_30_18 hs rfl (st_t9 hs) ?_
      refine at_callVV dx_30_19 rfl (st_c4 hs) rfl (c_clear (st_c4 hs)) ?_
      rintro _ rfl
      refine at_mem (fun M1 hM1 => ?_)
      rw [← hM1] at F0
      have F := F0
      have Ia : tkI M1 a := by rw [hM1]; unfold tkI; simp (disch := omega) only [um_eq, um_k, um_j]; omega
      have It : tkI M1 (s + 4) := by rw [hM1]; unfold tkI; simp (disch := omega) only [um_eq, um_k, um_j]; omega
      have T : tk M1 a = [] := by rw [hM1, tk_um (by omega) (by omega)]; unfold tk; rw [um_eq]; rfl
      have G : ∀ (q : Nat) (j : Int), (q = s ∨ q = s + 1 ∨ q = s + 2 ∨ q = s + 3 ∨ q = s + 6 ∨ q = s + 7 ∨ q = b ∨ q = b + 1) → M1 q j = M q j := fun q j h => F q j (by (try dsimp only [blk]); first | done | omega)
      have eb : tk M1 b = tk M b := tk_fr F (by (try dsimp only [blk]); first | done | omega) (by (try dsimp only [blk]); first | done | omega)
      have ep : tk M1 (s + 6) = tk M (s + 6) := tk_fr F (by (try dsimp only [blk]); first | done | omega) (by (try dsimp only [blk]); first | done | omega)
      have Ib : tkI M1 b := tkI_fr F (by (try dsimp only [blk]); first | done | omega) (hT b hb)
      have Ip : tkI M1 (s + 6) := tkI_fr F (by (try dsimp only [blk]); first | done | omega) (hT _ (st_c6 hs))
      refine at_const (x := 0) dx_30_20 rfl ?_
      refine at_istore dx_30_21 ?_
      refine at_const (x := 0) dx_30_22 rfl ?_
      refine at_istore dx_30_23 ?_
      refine at_const (x := 0) dx_30_24 rfl ?_
      refine at_istore dx_30_25 ?_
      refine at_iload dx_30_26 rfl ?_
      refine at_aload dx_30_27 rfl ?_
      refine at_getI 5 dx_30_28 hs rfl rfl (fun r28 => ?_)
      simp (disch := omega) only [G] at r28 ⊢
      refine at_cgeR dx_30_29 (by decide) r28 (fun c29 => ?_) (fun c29 => ?_)
      · skip
        refine at_aload dx_30_82 rfl ?_
        refine at_aload dx_30_83 rfl ?_
        refine at_iload dx_30_84 rfl ?_
        refine at_aload dx_30_85 rfl ?_
        refine at_getI 1 dx_30_86 hb rfl rfl (fun r86 => ?_)
        simp (disch := omega) only [G] at r86 ⊢
        refine at_callVV dx_30_87 rfl ha rfl (c_addSlice ha hb (by omega) (by decide) r86 Ia Ib) ?_
        rintro M2 ⟨f2, i2, t2⟩
        rw [eb, T] at t2
        replace F := fr_tr F (fr_le f2 (fun q h => show (fun q => q = a ∨ q = a + 1 ∨ q = s + 4 ∨ q = s + 5) q by (try dsimp only [blk] at h ⊢); first | done | omega))
        replace It : tkI M2 (s + 4) := tkI_fr f2 (by (try dsimp only [blk]); first | done | omega) It
        clear T G eb ep Ib Ip Ia f2
        have T := t2
        have Ia := i2
        clear t2 i2
        have G : ∀ (q : Nat) (j : Int), (q = s ∨ q = s + 1 ∨ q = s + 2 ∨ q = s + 3 ∨ q = s + 6 ∨ q = s + 7 ∨ q = b ∨ q = b + 1) → M2 q j = M q j := fun q j h => F q j (by (try dsimp only [blk]); first | done | omega)
        have eb : tk M2 b = tk M b := tk_fr F (by (try dsimp only [blk]); first | done | omega) (by (try dsimp only [blk]); first | done | omega)
        have ep : tk M2 (s + 6) = tk M (s + 6) := tk_fr F (by (try dsimp only [blk]); first | done | omega) (by (try dsimp only [blk]); first | done | omega)
        have Ib : tkI M2 b := tkI_fr F (by (try dsimp only [blk]); first | done | omega) (hT b hb)
        have Ip : tkI M2 (s + 6) := tkI_fr F (by (try dsimp only [blk]); first | done | omega) (hT _ (st_c6 hs))
        refine at_const (x := 1) dx_30_88 rfl ?_
        refine at_zretI dx_30_89 (Or.inr rfl) ?_
        have hw1 : x11 = 1 := by omega
        refine ⟨F, (TI_fr hT F (fun k hk hP => by
          rcases hP with rfl | rfl | rfl | rfl
          · exact Ia
          · exact absurd (tk_e hk) (by omega)
          · exact It
          · exact absurd (tk_e hk) (by omega))), Or.inr rfl, ⟨fun _ => hw.mp hw1, fun _ => rfl⟩, fun _ => ?_⟩
        unfold apV sv; dsimp only; rw [if_pos c2, el]
        first | (rw [if_pos (by omega)]; exact T) | (rw [if_neg (by omega), if_pos (by omega)]; exact T) | (rw [if_neg (by omega), if_neg (by omega)]; exact T)
      · skip
        refine at_iload dx_30_30 rfl ?_
        refine at_const (x := 2) dx_30_31 rfl ?_
        refine at_cgeR dx_30_32 (by decide) (by decide) (fun c => absurd c (by decide)) (fun _ => ?_)
        refine at_aload dx_30_33 rfl ?_
        refine at_getR dx_30_34 hs rfl (st_t6 hs) ?_
        refine at_iload dx_30_35 rfl ?_
        refine at_aldI dx_30_36 (st_c1 hs) (st_n1 hs) (by decide) (by decide) (fun r36 => ?_)
        simp (disch := omega) only [G] at r36 ⊢
        refine at_aload dx_30_37 rfl ?_
        refine at_getR dx_30_38 hs rfl (st_t7 hs) ?_
        refine at_iload dx_30_39 rfl ?_
        refine at_aldI dx_30_40 (st_c2 hs) (st_n2 hs) (by decide) (by decide) (fun r40 => ?_)
        simp (disch := omega) only [G] at r40 ⊢
        refine at_addW dx_30_41 ?_
        refine at_istore dx_30_42 ?_
        refine at_aload dx_30_43 rfl ?_
        refine at_aload dx_30_44 rfl ?_
        refine at_iload dx_30_45 rfl ?_
        refine at_aload dx_30_46 rfl ?_
        refine at_getR dx_30_47 hs rfl (st_t6 hs) ?_
        refine at_iload dx_30_48 rfl ?_
        refine at_aldI dx_30_49 (st_c1 hs) (st_n1 hs) (by decide) (by decide) (fun r49 => ?_)
        simp (disch := omega) only [G] at r49 ⊢
        refine at_callVV dx_30_50 rfl ha rfl (c_addSlice ha hb (by omega) (by decide) r49 Ia Ib) ?_
        rintro M2 ⟨f2, i2, t2⟩
        rw [eb, T] at t2
        replace F := fr_tr F (fr_le f2 (fun q h => show (fun q => q = a ∨ q = a + 1 ∨ q = s + 4 ∨ q = s + 5) q by (try dsimp only [blk] at h ⊢); first | done | omega))
        replace It : tkI M2 (s + 4) := tkI_fr f2 (by (try dsimp only [blk]); first | done | omega) It
        clear T G eb ep Ib Ip Ia f2
        have T := t2
        have Ia := i2
        clear t2 i2
        have G : ∀ (q : Nat) (j : Int), (q = s ∨ q = s + 1 ∨ q = s + 2 ∨ q = s + 3 ∨ q = s + 6 ∨ q = s + 7 ∨ q = b ∨ q = b + 1) → M2 q j = M q j := fun q j h => F q j (by (try dsimp only [blk]); first | done | omega)
        have eb : tk M2 b = tk M b := tk_fr F (by (try dsimp only [blk]); first | done | omega) (by (try dsimp only [blk]); first | done | omega)
        have ep : tk M2 (s + 6) = tk M (s + 6) := tk_fr F (by (try dsimp only [blk]); first | done | omega) (by (try dsimp only [blk]); first | done | omega)
        have Ib : tkI M2 b := tkI_fr F (by (try dsimp only [blk]); first | done | omega) (hT b hb)
        have Ip : tkI M2 (s + 6) := tkI_fr F (by (try dsimp only [blk]); first | done | omega) (hT _ (st_c6 hs))
        refine at_aload dx_30_51 rfl ?_
        refine at_aload dx_30_52 rfl ?_
        refine at_getR dx_30_53 hs rfl (st_t10 hs) ?_
        refine at_iload dx_30_54 rfl ?_
        refine at_iload dx_30_55 rfl ?_
        refine at_aload dx_30_56 rfl ?_
        refine at_getR dx_30_57 hs rfl (st_t8 hs) ?_
        refine at_iload dx_30_58 rfl ?_
        refine at_aldI dx_30_59 (st_c3 hs) (st_n3 hs) (by decide) (by decide) (fun r59 => ?_)
        simp (disch := omega) only [G] at r59 ⊢
        refine at_addW dx_30_60 ?_
        refine at_callVV dx_30_61 rfl ha rfl (c_addSlice ha (st_c6 hs) (by omega) (by decide) (inR_wr _) Ia Ip) ?_
        rintro M2 ⟨f2, i2, t2⟩
        rw [ep, T] at t2
        replace F := fr_tr F (fr_le f2 (fun q h => show (fun q => q = a ∨ q = a + 1 ∨ q = s + 4 ∨ q = s + 5) q by (try dsimp only [blk] at h ⊢); first | done | omega))
        replace It : tkI M2 (s + 4) := tkI_fr f2 (by (try dsimp only [blk]); first | done | omega) It
        clear T G eb ep Ib Ip Ia f2
        have T := t2
        have Ia := i2
        clear t2 i2
        have G : ∀ (q : Nat) (j : Int), (q = s ∨ q = s + 1 ∨ q = s + 2 ∨ q = s + 3 ∨ q = s + 6 ∨ q = s + 7 ∨ q = b ∨ q = b + 1) → M2 q j = M q j := fun q j h => F q j (by (try dsimp only [blk]); first | done | omega)
        have eb : tk M2 b = tk M b := tk_fr F (by (try dsimp only [blk]); first | done | omega) (by (try dsimp only [blk]); first | done | omega)
        have ep : tk M2 (s + 6) = tk M (s + 6) := tk_fr F (by (try dsimp only [blk]); first | done | omega) (by (try dsimp only [blk]); first | done | omega)
        have Ib : tkI M2 b := tkI_fr F (by (try dsimp only [blk]); first | done | omega) (hT b hb)
        have Ip : tkI M2 (s + 6) := tkI_fr F (by (try dsimp only [blk]); first | done | omega) (hT _ (st_c6 hs))
        refine at_aload dx_30_62 rfl ?_
        refine at_getR dx_30_63 hs rfl (st_t9 hs) ?_
        refine at_aload dx_30_64 rfl ?_
        refine at_aload dx_30_65 rfl ?_
        refine at_getR dx_30_66 hs rfl (st_t6 hs) ?_
        refine at_iload dx_30_67 rfl ?_
        refine at_aldI dx_30_68 (st_c1 hs) (st_n1 hs) (by decide) (by decide) (fun r68 => ?_)
        simp (disch := omega) only [G] at r68 ⊢
        refine at_iload dx_30_69 rfl ?_
        refine at_callVV dx_30_70 rfl (st_c4 hs) rfl (c_addSlice (st_c4 hs) hb (by omega) r68 (inR_wr _) It Ib) ?_
        rintro M2 ⟨f2, i2, -⟩
        replace F := fr_tr F (fr_le f2 (fun q h => show (fun q => q = a ∨ q = a + 1 ∨ q = s + 4 ∨ q = s + 5) q by (try dsimp only [blk] at h ⊢); first | done | omega))
        replace Ia : tkI M2 a := tkI_fr f2 (by (try dsimp only [blk]); first | done | omega) Ia
        replace T := (tk_fr f2 (by (try dsimp only [blk]); first | done | omega) (by (try dsimp only [blk]); first | done | omega)).trans T
        clear G eb ep Ib Ip It f2
        have It := i2
        clear i2
        have G : ∀ (q : Nat) (j : Int), (q = s ∨ q = s + 1 ∨ q = s + 2 ∨ q = s + 3 ∨ q = s + 6 ∨ q = s + 7 ∨ q = b ∨ q = b + 1) → M2 q j = M q j := fun q j h => F q j (by (try dsimp only [blk]); first | done | omega)
        have eb : tk M2 b = tk M b := tk_fr F (by (try dsimp only [blk]); first | done | omega) (by (try dsimp only [blk]); first | done | omega)
        have ep : tk M2 (s + 6) = tk M (s + 6) := tk_fr F (by (try dsimp only [blk]); first | done | omega) (by (try dsimp only [blk]); first | done | omega)
        have Ib : tkI M2 b := tkI_fr F (by (try dsimp only [blk]); first | done | omega) (hT b hb)
        have Ip : tkI M2 (s + 6) := tkI_fr F (by (try dsimp only [blk]); first | done | omega) (hT _ (st_c6 hs))
        refine at_iload dx_30_71 rfl ?_
        refine at_istore dx_30_72 ?_
        refine at_iload dx_30_73 rfl ?_
        refine at_aload dx_30_74 rfl ?_
        refine at_getR dx_30_75 hs rfl (st_t8 hs) ?_
        refine at_iload dx_30_76 rfl ?_
        refine at_aldI dx_30_77 (st_c3 hs) (st_n3 hs) (by decide) (by decide) (fun r77 => ?_)
        simp (disch := omega) only [G] at r77 ⊢
        refine at_addW dx_30_78 ?_
        refine at_istore dx_30_79 ?_
        refine at_iincC (y := 1) (z := 1) dx_30_80 rfl rfl (by decide +kernel) ?_
        refine at_goto dx_30_81 ?_
        refine at_iload dx_30_26 rfl ?_
        refine at_aload dx_30_27 rfl ?_
        refine at_getI 5 dx_30_28 hs rfl rfl (fun r28 => ?_)
        simp (disch := omega) only [G] at r28 ⊢
        refine at_cgeR dx_30_29 (by decide) r28 (fun c29 => ?_) (fun c29 => ?_)
        · skip
          refine at_aload dx_30_82 rfl ?_
          refine at_aload dx_30_83 rfl ?_
          refine at_iload dx_30_84 rfl ?_
          refine at_aload dx_30_85 rfl ?_
          refine at_getI 1 dx_30_86 hb rfl rfl (fun r86 => ?_)
          simp (disch := omega) only [G] at r86 ⊢
          refine at_callVV dx_30_87 rfl ha rfl (c_addSlice ha hb (by omega) (inR_wr _) r86 Ia Ib) ?_
          rintro M2 ⟨f2, i2, t2⟩
          rw [eb, T] at t2
          replace F := fr_tr F (fr_le f2 (fun q h => show (fun q => q = a ∨ q = a + 1 ∨ q = s + 4 ∨ q = s + 5) q by (try dsimp only [blk] at h ⊢); first | done | omega))
          replace It : tkI M2 (s + 4) := tkI_fr f2 (by (try dsimp only [blk]); first | done | omega) It
          clear T G eb ep Ib Ip Ia f2
          have T := t2
          have Ia := i2
          clear t2 i2
          have G : ∀ (q : Nat) (j : Int), (q = s ∨ q = s + 1 ∨ q = s + 2 ∨ q = s + 3 ∨ q = s + 6 ∨ q = s + 7 ∨ q = b ∨ q = b + 1) → M2 q j = M q j := fun q j h => F q j (by (try dsimp only [blk]); first | done | omega)
          have eb : tk M2 b = tk M b := tk_fr F (by (try dsimp only [blk]); first | done | omega) (by (try dsimp only [blk]); first | done | omega)
          have ep : tk M2 (s + 6) = tk M (s + 6) := tk_fr F (by (try dsimp only [blk]); first | done | omega) (by (try dsimp only [blk]); first | done | omega)
          have Ib : tkI M2 b := tkI_fr F (by (try dsimp only [blk]); first | done | omega) (hT b hb)
          have Ip : tkI M2 (s + 6) := tkI_fr F (by (try dsimp only [blk]); first | done | omega) (hT _ (st_c6 hs))
          refine at_const (x := 1) dx_30_88 rfl ?_
          refine at_zretI dx_30_89 (Or.inr rfl) ?_
          have hw1 : x11 = 1 := by omega
          refine ⟨F, (TI_fr hT F (fun k hk hP => by
            rcases hP with rfl | rfl | rfl | rfl
            · exact Ia
            · exact absurd (tk_e hk) (by omega)
            · exact It
            · exact absurd (tk_e hk) (by omega))), Or.inr rfl, ⟨fun _ => hw.mp hw1, fun _ => rfl⟩, fun _ => ?_⟩
          unfold apV sv; dsimp only; rw [if_pos c2, el]
          first | (rw [if_pos (by omega)]; exact T) | (rw [if_neg (by omega), if_pos (by omega)]; exact T) | (rw [if_neg (by omega), if_neg (by omega)]; exact T)
        · skip
          refine at_iload dx_30_30 rfl ?_
          refine at_const (x := 2) dx_30_31 rfl ?_
          refine at_cgeR dx_30_32 (by decide) (by decide) (fun c => absurd c (by decide)) (fun _ => ?_)
          refine at_aload dx_30_33 rfl ?_
          refine at_getR dx_30_34 hs rfl (st_t6 hs) ?_
          refine at_iload dx_30_35 rfl ?_
          refine at_aldI dx_30_36 (st_c1 hs) (st_n1 hs) (by decide) (by decide) (fun r36 => ?_)
          simp (disch := omega) only [G] at r36 ⊢
          refine at_aload dx_30_37 rfl ?_
          refine at_getR dx_30_38 hs rfl (st_t7 hs) ?_
          refine at_iload dx_30_39 rfl ?_
          refine at_aldI dx_30_40 (st_c2 hs) (st_n2 hs) (by decide) (by decide) (fun r40 => ?_)
          simp (disch := omega) only [G] at r40 ⊢
          refine at_addW dx_30_41 ?_
          refine at_istore dx_30_42 ?_
          refine at_aload dx_30_43 rfl ?_
          refine at_aload dx_30_44 rfl ?_
          refine at_iload dx_30_45 rfl ?_
          refine at_aload dx_30_46 rfl ?_
          refine at_getR dx_30_47 hs rfl (st_t6 hs) ?_
          refine at_iload dx_30_48 rfl ?_
          refine at_aldI dx_30_49 (st_c1 hs) (st_n1 hs) (by decide) (by decide) (fun r49 => ?_)
          simp (disch := omega) only [G] at r49 ⊢
          refine at_callVV dx_30_50 rfl ha rfl (c_addSlice ha hb (by omega) (inR_wr _) r49 Ia Ib) ?_
          rintro M2 ⟨f2, i2, t2⟩
          rw [eb, T] at t2
          replace F := fr_tr F (fr_le f2 (fun q h => show (fun q => q = a ∨ q = a + 1 ∨ q = s + 4 ∨ q = s + 5) q by (try dsimp only [blk] at h ⊢); first | done | omega))
          replace It : tkI M2 (s + 4) := tkI_fr f2 (by (try dsimp only [blk]); first | done | omega) It
          clear T G eb ep Ib Ip Ia f2
          have T := t2
          have Ia := i2
          clear t2 i2
          have G : ∀ (q : Nat) (j : Int), (q = s ∨ q = s + 1 ∨ q = s + 2 ∨ q = s + 3 ∨ q = s + 6 ∨ q = s + 7 ∨ q = b ∨ q = b + 1) → M2 q j = M q j := fun q j h => F q j (by (try dsimp only [blk]); first | done | omega)
          have eb : tk M2 b = tk M b := tk_fr F (by (try dsimp only [blk]); first | done | omega) (by (try dsimp only [blk]); first | done | omega)
          have ep : tk M2 (s + 6) = tk M (s + 6) := tk_fr F (by (try dsimp only [blk]); first | done | omega) (by (try dsimp only [blk]); first | done | omega)
          have Ib : tkI M2 b := tkI_fr F (by (try dsimp only [blk]); first | done | omega) (hT b hb)
          have Ip : tkI M2 (s + 6) := tkI_fr F (by (try dsimp only [blk]); first | done | omega) (hT _ (st_c6 hs))
          refine at_aload dx_30_51 rfl ?_
          refine at_aload dx_30_52 rfl ?_
          refine at_getR dx_30_53 hs rfl (st_t10 hs) ?_
          refine at_iload dx_30_54 rfl ?_
          refine at_iload dx_30_55 rfl ?_
          refine at_aload dx_30_56 rfl ?_
          refine at_getR dx_30_57 hs rfl (st_t8 hs) ?_
          refine at_iload dx_30_58 rfl ?_
          refine at_aldI dx_30_59 (st_c3 hs) (st_n3 hs) (by decide) (by decide) (fun r59 => ?_)
          simp (disch := omega) only [G] at r59 ⊢
          refine at_addW dx_30_60 ?_
          refine at_callVV dx_30_61 rfl ha rfl (c_addSlice ha (st_c6 hs) (by omega) (inR_wr _) (inR_wr _) Ia Ip) ?_
          rintro M2 ⟨f2, i2, t2⟩
          rw [ep, T] at t2
          replace F := fr_tr F (fr_le f2 (fun q h => show (fun q => q = a ∨ q = a + 1 ∨ q = s + 4 ∨ q = s + 5) q by (try dsimp only [blk] at h ⊢); first | done | omega))
          replace It : tkI M2 (s + 4) := tkI_fr f2 (by (try dsimp only [blk]); first | done | omega) It
          clear T G eb ep Ib Ip Ia f2
          have T := t2
          have Ia := i2
          clear t2 i2
          have G : ∀ (q : Nat) (j : Int), (q = s ∨ q = s + 1 ∨ q = s + 2 ∨ q = s + 3 ∨ q = s + 6 ∨ q = s + 7 ∨ q = b ∨ q = b + 1) → M2 q j = M q j := fun q j h => F q j (by (try dsimp only [blk]); first | done | omega)
          have eb : tk M2 b = tk M b := tk_fr F (by (try dsimp only [blk]); first | done | omega) (by (try dsimp only [blk]); first | done | omega)
          have ep : tk M2 (s + 6) = tk M (s + 6) := tk_fr F (by (try dsimp only [blk]); first | done | omega) (by (try dsimp only [blk]); first | done | omega)
          have Ib : tkI M2 b := tkI_fr F (by (try dsimp only [blk]); first | done | omega) (hT b hb)
          have Ip : tkI M2 (s + 6) := tkI_fr F (by (try dsimp only [blk]); first | done | omega) (hT _ (st_c6 hs))
          refine at_aload dx_30_62 rfl ?_
          refine at_getR dx_30_63 hs rfl (st_t9 hs) ?_
          refine at_aload dx_30_64 rfl ?_
          refine at_aload dx_30_65 rfl ?_
          refine at_getR dx_30_66 hs rfl (st_t6 hs) ?_
          refine at_iload dx_30_67 rfl ?_
          refine at_aldI dx_30_68 (st_c1 hs) (st_n1 hs) (by decide) (by decide) (fun r68 => ?_)
          simp (disch := omega) only [G] at r68 ⊢
          refine at_iload dx_30_69 rfl ?_
          refine at_callVV dx_30_70 rfl (st_c4 hs) rfl (c_addSlice (st_c4 hs) hb (by omega) r68 (inR_wr _) It Ib) ?_
          rintro M2 ⟨f2, i2, -⟩
          replace F := fr_tr F (fr_le f2 (fun q h => show (fun q => q = a ∨ q = a + 1 ∨ q = s + 4 ∨ q = s + 5) q by (try dsimp only [blk] at h ⊢); first | done | omega))
          replace Ia : tkI M2 a := tkI_fr f2 (by (try dsimp only [blk]); first | done | omega) Ia
          replace T := (tk_fr f2 (by (try dsimp only [blk]); first | done | omega) (by (try dsimp only [blk]); first | done | omega)).trans T
          clear G eb ep Ib Ip It f2
          have It := i2
          clear i2
          have G : ∀ (q : Nat) (j : Int), (q = s ∨ q = s + 1 ∨ q = s + 2 ∨ q = s + 3 ∨ q = s + 6 ∨ q = s + 7 ∨ q = b ∨ q = b + 1) → M2 q j = M q j := fun q j h => F q j (by (try dsimp only [blk]); first | done | omega)
          have eb : tk M2 b = tk M b := tk_fr F (by (try dsimp only [blk]); first | done | omega) (by (try dsimp only [blk]); first | done | omega)
          have ep : tk M2 (s + 6) = tk M (s + 6) := tk_fr F (by (try dsimp only [blk]); first | done | omega) (by (try dsimp only [blk]); first | done | omega)
          have Ib : tkI M2 b := tkI_fr F (by (try dsimp only [blk]); first | done | omega) (hT b hb)
          have Ip : tkI M2 (s + 6) := tkI_fr F (by (try dsimp only [blk]); first | done | omega) (hT _ (st_c6 hs))
          refine at_iload dx_30_71 rfl ?_
          refine at_istore dx_30_72 ?_
          refine at_iload dx_30_73 rfl ?_
          refine at_aload dx_30_74 rfl ?_
          refine at_getR dx_30_75 hs rfl (st_t8 hs) ?_
          refine at_iload dx_30_76 rfl ?_
          refine at_aldI dx_30_77 (st_c3 hs) (st_n3 hs) (by decide) (by decide) (fun r77 => ?_)
          simp (disch := omega) only [G] at r77 ⊢
          refine at_addW dx_30_78 ?_
          refine at_istore dx_30_79 ?_
          refine at_iincC (y := 1) (z := 2) dx_30_80 rfl rfl (by decide +kernel) ?_
          refine at_goto dx_30_81 ?_
          refine at_iload dx_30_26 rfl ?_
          refine at_aload dx_30_27 rfl ?_
          refine at_getI 5 dx_30_28 hs rfl rfl (fun r28 => ?_)
          simp (disch := omega) only [G] at r28 ⊢
          refine at_cgeR dx_30_29 (by decide) r28 (fun c29 => ?_) (fun c29 => ?_)
          · skip
            refine at_aload dx_30_82 rfl ?_
            refine at_aload dx_30_83 rfl ?_
            refine at_iload dx_30_84 rfl ?_
            refine at_aload dx_30_85 rfl ?_
            refine at_getI 1 dx_30_86 hb rfl rfl (fun r86 => ?_)
            simp (disch := omega) only [G] at r86 ⊢
            refine at_callVV dx_30_87 rfl ha rfl (c_addSlice ha hb (by omega) (inR_wr _) r86 Ia Ib) ?_
            rintro M2 ⟨f2, i2, t2⟩
            rw [eb, T] at t2
            replace F := fr_tr F (fr_le f2 (fun q h => show (fun q => q = a ∨ q = a + 1 ∨ q = s + 4 ∨ q = s + 5) q by (try dsimp only [blk] at h ⊢); first | done | omega))
            replace It : tkI M2 (s + 4) := tkI_fr f2 (by (try dsimp only [blk]); first | done | omega) It
            clear T G eb ep Ib Ip Ia f2
            have T := t2
            have Ia := i2
            clear t2 i2
            have G : ∀ (q : Nat) (j : Int), (q = s ∨ q = s + 1 ∨ q = s + 2 ∨ q = s + 3 ∨ q = s + 6 ∨ q = s + 7 ∨ q = b ∨ q = b + 1) → M2 q j = M q j := fun q j h => F q j (by (try dsimp only [blk]); first | done | omega)
            have eb : tk M2 b = tk M b := tk_fr F (by (try dsimp only [blk]); first | done | omega) (by (try dsimp only [blk]); first | done | omega)
            have ep : tk M2 (s + 6) = tk M (s + 6) := tk_fr F (by (try dsimp only [blk]); first | done | omega) (by (try dsimp only [blk]); first | done | omega)
            have Ib : tkI M2 b := tkI_fr F (by (try dsimp only [blk]); first | done | omega) (hT b hb)
            have Ip : tkI M2 (s + 6) := tkI_fr F (by (try dsimp only [blk]); first | done | omega) (hT _ (st_c6 hs))
            refine at_const (x := 1) dx_30_88 rfl ?_
            refine at_zretI dx_30_89 (Or.inr rfl) ?_
            have hw1 : x11 = 1 := by omega
            refine ⟨F, (TI_fr hT F (fun k hk hP => by
              rcases hP with rfl | rfl | rfl | rfl
              · exact Ia
              · exact absurd (tk_e hk) (by omega)
              · exact It
              · exact absurd (tk_e hk) (by omega))), Or.inr rfl, ⟨fun _ => hw.mp hw1, fun _ => rfl⟩, fun _ => ?_⟩
            unfold apV sv; dsimp only; rw [if_pos c2, el]
            first | (rw [if_pos (by omega)]; exact T) | (rw [if_neg (by omega), if_pos (by omega)]; exact T) | (rw [if_neg (by omega), if_neg (by omega)]; exact T)
          · skip
            refine at_iload dx_30_30 rfl ?_
            refine at_const (x := 2) dx_30_31 rfl ?_
            refine at_cgeR dx_30_32 (by decide) (by decide) (fun _ => ?_) (fun c => absurd c (by decide))
            refine at_aload dx_30_82 rfl ?_
            refine at_aload dx_30_83 rfl ?_
            refine at_iload dx_30_84 rfl ?_
            refine at_aload dx_30_85 rfl ?_
            refine at_getI 1 dx_30_86 hb rfl rfl (fun r86 => ?_)
            simp (disch := omega) only [G] at r86 ⊢
            refine at_callVV dx_30_87 rfl ha rfl (c_addSlice ha hb (by omega) (inR_wr _) r86 Ia Ib) ?_
            rintro M2 ⟨f2, i2, t2⟩
            rw [eb, T] at t2
            replace F := fr_tr F (fr_le f2 (fun q h => show (fun q => q = a ∨ q = a + 1 ∨ q = s + 4 ∨ q = s + 5) q by (try dsimp only [blk] at h ⊢); first | done | omega))
            replace It : tkI M2 (s + 4) := tkI_fr f2 (by (try dsimp only [blk]); first | done | omega) It
            clear T G eb ep Ib Ip Ia f2
            have T := t2
            have Ia := i2
            clear t2 i2
            have G : ∀ (q : Nat) (j : Int), (q = s ∨ q = s + 1 ∨ q = s + 2 ∨ q = s + 3 ∨ q = s + 6 ∨ q = s + 7 ∨ q = b ∨ q = b + 1) → M2 q j = M q j := fun q j h => F q j (by (try dsimp only [blk]); first | done | omega)
            have eb : tk M2 b = tk M b := tk_fr F (by (try dsimp only [blk]); first | done | omega) (by (try dsimp only [blk]); first | done | omega)
            have ep : tk M2 (s + 6) = tk M (s + 6) := tk_fr F (by (try dsimp only [blk]); first | done | omega) (by (try dsimp only [blk]); first | done | omega)
            have Ib : tkI M2 b := tkI_fr F (by (try dsimp only [blk]); first | done | omega) (hT b hb)
            have Ip : tkI M2 (s + 6) := tkI_fr F (by (try dsimp only [blk]); first | done | omega) (hT _ (st_c6 hs))
            refine at_const (x := 1) dx_30_88 rfl ?_
            refine at_zretI dx_30_89 (Or.inr rfl) ?_
            have hw1 : x11 = 1 := by omega
            refine ⟨F, (TI_fr hT F (fun k hk hP => by
              rcases hP with rfl | rfl | rfl | rfl
              · exact Ia
              · exact absurd (tk_e hk) (by omega)
              · exact It
              · exact absurd (tk_e hk) (by omega))), Or.inr rfl, ⟨fun _ => hw.mp hw1, fun _ => rfl⟩, fun _ => ?_⟩
            unfold apV sv; dsimp only; rw [if_pos c2, el]
            first | (rw [if_pos (by omega)]; exact T) | (rw [if_neg (by omega), if_pos (by omega)]; exact T) | (rw [if_neg (by omega), if_neg (by omega)]; exact T)
    · skip
      refine at_const (x := 0) dx_30_13 rfl ?_
      refine at_zretI dx_30_14 (Or.inl rfl) ?_
      refine ⟨fr_rf, hT, Or.inl rfl, ⟨fun e => absurd e (by decide), fun e => ?_⟩, fun e => absurd e (by decide)⟩
      have := hw.mpr e; omega
  · skip
    refine at_aload dx_30_3 rfl ?_
    refine at_aload dx_30_4 rfl ?_
    refine at_aload dx_30_5 rfl ?_
    refine at_callVV dx_30_6 rfl hs rfl (c_markTokens hs hb ha (by omega) (hT b hb)) ?_
    rintro M1 ⟨f1, i1, t1⟩
    refine at_const (x := 1) dx_30_7 rfl ?_
    refine at_zretI dx_30_8 (Or.inr rfl) ?_
    refine ⟨fr_le f1 (fun q h => by (try dsimp only [blk] at h ⊢); first | done | omega), ?_, Or.inr rfl, ⟨fun _ => ?_, fun _ => rfl⟩, fun _ => ?_⟩
    · refine TI_fr hT f1 (fun k hk hP => ?_)
      rcases hP with rfl | rfl
      · exact i1
      · exact absurd (tk_e hk) (by omega)
    · unfold okV sv; dsimp only; rw [if_neg c2]; trivial
    · rw [t1]; unfold apV sv; dsimp only; rw [if_neg c2]
