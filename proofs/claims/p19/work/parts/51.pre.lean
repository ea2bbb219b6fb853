/-! ===== the law: its wrappers' calls ===== -/
noncomputable def cwk (b e : Nat) : Nat := Nat.mod (Nat.div (Nat.div b 256) (4 ^ e)) 4
theorem at_callW {X : scr} {m i a b k : Nat} {ls st : List (sx_V Int)} {M : mem} {Q : Nat → sx_V Int → mem → Prop} {as : List (sx_V Int)} {r : List (sx_V Int)} {Qc : Nat → sx_V Int → mem → Prop} (hd : cdx m i = (39, (a, b))) (hp : sx_pop (Nat.mod b 16) [] st = some (as, vr k :: r)) (hk : ly_c k = Nat.mod (Nat.div b 16) 16) (hs : (Nat.ble (Nat.mod (Nat.div b 16) 16) 7 && (Nat.ble (sx_sw r) 8 && sx_n2 as)) = true)
    (C : At X 0 a 0 (vr k :: as) [] M Qc) (K0 : ∀ v M', Qc 0 v M' → At X 1 m (i + 1) ls r M' Q) (K1 : ∀ v M', Qc 1 v M' → At X 1 m (i + 1) ls (v :: r) M' Q) (K2 : ∀ e v M', Qc (e + 2) v M' → (Nat.beq (cwk b e) 0 || Nat.ble 3 e) = false ∧ Q 1 (some (.inl ((oI X).1 (cwk b e)))) M') : At X 1 m i ls st M Q := fun lx h hl hM => by
  obtain ⟨x, e1, e39, rfl, rfl⟩ := cdx_ok hd (by decide)
  have hn : sx_n2 (vr k :: as) = true := (sx_a2 (sx_a2 hs).2).2
  obtain ⟨n0, out, c1, M1, c2, c3, c4, c5⟩ := C (sx_args 0 (vr k :: as)) h (lsR_entry hn) hM
  obtain ⟨⟨t, v⟩, h'⟩ := out
  have hcall : ∀ n, n0 ≤ n → sx_ca sx_cd (sx_run sx_cd (oI X) n) (sx_xa x) (vr k :: as) h = some ((t, v), h') := c1
  have h1 : ∀ n, sx_run sx_cd (oI X) (n + 1) (sx_cd m) ((sx_cd m).drop i) lx st h = sx_bkW (oI X) (sx_run sx_cd (oI X) n (sx_cd m)) (sx_xb x) ((sx_cd m).drop (i + 1)) lx r (sx_ca sx_cd (sx_run sx_cd (oI X) n) (sx_xa x) (vr k :: as) h) := fun n => by
    rw [e1, run_row, e39]
    show sh_callW (oI X) (sx_ca sx_cd (sx_run sx_cd (oI X) n)) _ (sx_xa x) (sx_xb x) _ lx st h = _
    unfold sh_callW
    have e2 := hM.1 k (by rw [hk]; exact Nat.le_of_ble_eq_true (sx_a2 hs).1)
    rw [hk] at e2
    simp only [hp, e2, Nat.beq_refl, (sx_a2 hs).2, Bool.and_self, cond_true]
  match t, hcall, c2, c3, c4, c5 with
  | 0, hcall, c2, c3, c4, c5 =>
    obtain ⟨n1, out, k1, M2, k2, k3, k4, k5⟩ := K0 v M1 c5 lx h' hl c2
    refine ⟨max n0 n1 + 1, out, fun n hn => ?_, M2, k2, ?_, ?_, k5⟩
    · obtain ⟨n, rfl⟩ : ∃ n', n = n' + 1 := ⟨n - 1, by omega⟩
      rw [h1, hcall n (by omega)]
      exact k1 n (by omega)
    · have c3' : h'.2.2.1 ≤ h.2.2.1 + 0 := c3
      omega
    · have c4' : h'.2.2.2.1 ≤ h.2.2.2.1 + 0 := c4
      omega
  | 1, hcall, c2, c3, c4, c5 =>
    obtain ⟨n1, out, k1, M2, k2, k3, k4, k5⟩ := K1 v M1 c5 lx h' hl c2
    refine ⟨max n0 n1 + 1, out, fun n hn => ?_, M2, k2, ?_, ?_, k5⟩
    · obtain ⟨n, rfl⟩ : ∃ n', n = n' + 1 := ⟨n - 1, by omega⟩
      rw [h1, hcall n (by omega)]
      exact k1 n (by omega)
    · have c3' : h'.2.2.1 ≤ h.2.2.1 + 0 := c3
      omega
    · have c4' : h'.2.2.2.1 ≤ h.2.2.2.1 + 0 := c4
      omega
  | e + 2, hcall, c2, c3, c4, c5 =>
    obtain ⟨q1, q2⟩ := K2 e v M1 c5
    refine ⟨n0 + 1, ((1, some (.inl ((oI X).1 (cwk (sx_xb x) e)))), h'), fun n hn => ?_, M1, c2, ?_, ?_, q2⟩
    · obtain ⟨n, rfl⟩ : ∃ n', n = n' + 1 := ⟨n - 1, by omega⟩
      rw [h1, hcall n (by omega)]
      show cond (Nat.beq (cwk (sx_xb x) e) 0 || Nat.ble 3 e) none _ = _
      rw [q1]
      rfl
    · have c3' : h'.2.2.1 ≤ h.2.2.1 + (0 + 1) := c3
      show h'.2.2.1 ≤ h.2.2.1 + (1 + 0)
      omega
    · have c4' : h'.2.2.2.1 ≤ h.2.2.2.1 + 6 * (0 + 1) := c4
      show h'.2.2.2.1 ≤ h.2.2.2.1 + 6 * (1 + 0)
      omega
theorem MI_fr {M M' : mem} (hM : MI M) (h : fr lo M M') : MI M' := by
  have F : frE (fun q j => q < 856) M M' := fun q j hq => h q j hq
  obtain ⟨a1, a2, a3, a4, a5⟩ := hM
  have g : ∀ (q : Nat) (j : Int), 856 ≤ q → M' q j = M q j := fun q j hq => h q j (by unfold lo; omega)
  have d : ∀ c : Int, dc M' c = dc M c := fun c => dc_cg (g 860 c (by decide)) (fun j _ => g 859 _ (by decide))
  refine ⟨fun d h0 h3 => by rw [g 860 d (by decide)]; exact a1 d h0 h3, by rw [g 856 13 (by decide)]; exact a2, by rw [g 856 19 (by decide)]; exact a3, ?_, fun c h0 h2 => ?_⟩
  · rw [g 856 13 (by decide), lgW_fe F (fun q j e => by (try dsimp only at e); omega), d]; exact a4
  · have h9 := a5 c h0 h2
    unfold MC at h9 ⊢
    rw [g 870 c (by decide), g 871 c (by decide), g 874 c (by decide), g 856 13 (by decide), lgW_fe F (fun q j e => by (try dsimp only at e); omega), d, pdW_fe F (fun q j e => by (try dsimp only at e); omega)]
    exact h9
theorem ly_5 {k : Nat} (h : ly_c k = 5) : k < 856 := by
  by_cases e : k < 884
  · have h9 : ∀ i : Fin 884, ly_c i.val = 5 → i.val < 856 := by decide +kernel
    exact h9 ⟨k, e⟩ h
  · have hq := ly_big (k := k) (by omega)
    omega
theorem CI_fr {M M' : mem} (hC : CI M) (h : fr hi M M') : CI M' := by
  have g : ∀ j, M' 0 j = M 0 j := fun j => h 0 j (by unfold hi; omega)
  obtain ⟨hT, hR, b1, b2, b3, b4⟩ := hC
  refine ⟨TI_fr hT h (fun k hk hP => by have := ly_5 hk; unfold hi at hP; omega), RI_fr h (by unfold hi; omega) hR, by rw [g]; exact b1, by rw [g]; exact b2, ?_, fun c hc => ?_⟩
  · rw [g, tk_fr h (by unfold hi; omega) (by unfold hi; omega), lgV_cg h (by omega) (fun q hP => by unfold hi at hP; omega)]
    exact b3
  · have h9 := cl_al hc
    exact CC_fr h hc (fun q hP => by unfold hi at hP; omega) (fun q hP => by unfold hi at hP; omega) (by omega) (b4 c hc)
