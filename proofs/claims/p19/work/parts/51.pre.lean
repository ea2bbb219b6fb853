/-! ===== the law: its wrappers' calls ===== -/
noncomputable def cwk (b e : Nat) : Nat := Nat.mod (Nat.div (Nat.div b 256) (4 ^ e)) 4
theorem at_callW {X : scr} {m i a b k : Nat} {ls st : List (sx_V Int)} {M : mem} {Q : Nat → sx_V Int → mem → Prop} {as : List (sx_V Int)} {r : List (sx_V Int)} {Qc : Nat → sx_V Int → mem → Prop} (hd : cdx m i = (39, (a, b))) (hp : sx_pop (Nat.mod b 16) [] st = some (as, vr k :: r)) (hk : ly_c k = Nat.mod (Nat.div b 16) 16) (hs : (Nat.ble (Nat.mod (Nat.div b 16) 16) 7 && (Nat.ble (sx_sw r) 8 && sx_n2 as)) = true)
    (C : At X 0 a 0 (vr k :: as) [] M Qc) (K0 : ∀ v M', Qc 0 v M' → At X 1 m (i + 1) ls r M' Q) (K1 : ∀ v M', Qc 1 v M' → At X 1 m (i + 1) ls (v :: r) M' Q) (K2 : ∀ e v M', Qc (e + 2) v M' → (Nat.beq (cwk b e) 0 || Nat.ble 3 e) = false ∧ Q 1 (some (.inl ((oI X).1 (cwk b e)))) M') : At X 1 m i ls st M Q := fun lx h hl hM => by
  obtain ⟨x, e1, e39, rfl, rfl⟩ := cdx_ok hd (by decide)
  have hn : sx_n2 (vr k :: as) = true := (sx_a2 (sx_a2 hs).2).2
  obtain ⟨n0, out, c1, M1, c2, c3, c4, c5⟩ := C (sx_args 0 (vr k :: as)) h (lsR_entry hn) hM
  obtain ⟨⟨t, v⟩, h'⟩ := out
  have hcall : ∀ n, n0 ≤ n → sx_ca sx_cd (sx_run sx_cd (oI X) n) (sx_xa x) (vr k :: as) h = some ((t, v), h') := c1
  have h1 : ∀ n, sx_run sx_cd (oI X) (n + 1) (sx_cd m) ((sx_cd m).drop i) lx st h = sx_bkW (oI X) (sx_run sx_cd (oI X) n (sx_cd m)) (sx_xb x) ((sx_cd m).drop (i + 1)) lx r (sx_ca sx_cd (sx_run sx_cd (oI X) n) (sx_xa x) (vr k :: as) h) := fun n => by
    rw [e1, run_row, e39]
    show sh_callW (oI X) (sx_ca sx_cd (sx_run sx_cd (oI X) n)) _ (sx_xa x) (sx_xb x) _ lx st h = _
    unfold sh_callW
    have e2 := hM.1 k (by rw [hk]; exact Nat.le_of_ble_eq_true (sx_a2 hs).1)
    rw [hk] at e2
    simp only [hp, e2, Nat.beq_refl, (sx_a2 hs).2, Bool.and_self, cond_true]
  match t, hcall, c2, c3, c4, c5 with
  | 0, hcall, c2, c3, c4, c5 =>
    obtain ⟨n1, out, k1, M2, k2, k3, k4, k5⟩ := K0 v M1 c5 lx h' hl c2
    refine ⟨max n0 n1 + 1, out, fun n hn => ?_, M2, k2, ?_, ?_, k5⟩
    · obtain ⟨n, rfl⟩ : ∃ n', n = n' + 1 := ⟨n - 1, by omega⟩
      rw [h1, hcall n (by omega)]
      exact k1 n (by omega)
    · have c3' : h'.2.2.1 ≤ h.2.2.1 + 0 := c3
      omega
    · have c4' : h'.2.2.2.1 ≤ h.2.2.2.1 + 0 := c4
      omega
  | 1, hcall, c2, c3, c4, c5 =>
    obtain ⟨n1, out, k1, M2, k2, k3, k4, k5⟩ := K1 v M1 c5 lx h' hl c2
    refine ⟨max n0 n1 + 1, out, fun n hn => ?_, M2, k2, ?_, ?_, k5⟩
    · obtain ⟨n, rfl⟩ : ∃ n', n = n' + 1 := ⟨n - 1, by omega⟩
      rw [h1, hcall n (by omega)]
      exact k1 n (by omega)
    · have c3' : h'.2.2.1 ≤ h.2.2.1 + 0 := c3
      omega
    · have c4' : h'.2.2.2.1 ≤ h.2.2.2.1 + 0 := c4
      omega
  | e + 2, hcall, c2, c3, c4, c5 =>
    obtain ⟨q1, q2⟩ := K2 e v M1 c5
    refine ⟨n0 + 1, ((1, some (.inl ((oI X).1 (cwk (sx_xb x) e)))), h'), fun n hn => ?_, M1, c2, ?_, ?_, q2⟩
    · obtain ⟨n, rfl⟩ : ∃ n', n = n' + 1 := ⟨n - 1, by omega⟩
      rw [h1, hcall n (by omega)]
      show cond (Nat.beq (cwk (sx_xb x) e) 0 || Nat.ble 3 e) none _ = _
      rw [q1]
      rfl
    · have c3' : h'.2.2.1 ≤ h.2.2.1 + (0 + 1) := c3
      show h'.2.2.1 ≤ h.2.2.1 + (1 + 0)
      omega
    · have c4' : h'.2.2.2.1 ≤ h.2.2.2.1 + 6 * (0 + 1) := c4
      show h'.2.2.2.1 ≤ h.2.2.2.1 + 6 * (1 + 0)
      omega
