/-! ===== the reference's machines against the class's ===== -/
noncomputable def rsk (k q s e : Int) : Int := if (ii_and (ii_shr s (2 * e)) 1 = 1 ∧ (k = 0 ∨ q = 1 ∨ q = 2)) ∨ ii_and (ii_shr s (2 * e + 1)) 1 = 1 then ii_or s (ii_shl 1 (2 * e + 2)) else ii_or s 0
noncomputable def rsT (K Q : Int → Int) (t : Int) : Nat → Int → Int
  | 0, s => s
  | n + 1, s => rsT K Q t n (rsk (K (3 * t + (2 - (n : Int)))) (Q (3 * t + (2 - (n : Int)))) s (2 - (n : Int)))
theorem rsT_step {K Q : Int → Int} {t e c : Int} (h0 : 0 ≤ e) (h1 : e < 3) : rsT K Q t (3 - e).toNat c = rsT K Q t (3 - (e + 1)).toNat (rsk (K (3 * t + e)) (Q (3 * t + e)) c e) := by
  obtain ⟨n, hn⟩ : ∃ n : Nat, (n : Int) = 2 - e := ⟨(2 - e).toNat, by omega⟩
  have e1 : (3 - e).toNat = n + 1 := by omega
  have e2 : (3 - (e + 1)).toNat = n := by omega
  rw [e1, e2]
  show rsT K Q t n (rsk (K (3 * t + (2 - (n : Int)))) (Q (3 * t + (2 - (n : Int)))) c (2 - (n : Int))) = _
  rw [show 2 - (n : Int) = e by omega]
noncomputable def rs (K Q : Int → Int) (t s : Int) : Int := rsT K Q t 3 s
noncomputable def gfo (k q s kd e r : Int) : Int := if ii_and (ii_shr k kd) 1 = 1 ∧ (ii_and (ii_shr s (2 * e)) 1 = 1 ∨ (ii_and (ii_shr s (2 * e + 1)) 1 = 1 ∧ 1 < q)) then ii_or r (ii_shl 1 (2 * e + 1)) else ii_or r 0
noncomputable def foT (K Q : Int → Int) (t s kd : Int) : Nat → Int → Int
  | 0, r => r
  | n + 1, r => foT K Q t s kd n (gfo (K (3 * t + (2 - (n : Int)))) (Q (3 * t + (2 - (n : Int)))) s kd (2 - (n : Int)) r)
theorem foT_step {K Q : Int → Int} {t s kd e c : Int} (h0 : 0 ≤ e) (h1 : e < 3) : foT K Q t s kd (3 - e).toNat c = foT K Q t s kd (3 - (e + 1)).toNat (gfo (K (3 * t + e)) (Q (3 * t + e)) s kd e c) := by
  obtain ⟨n, hn⟩ : ∃ n : Nat, (n : Int) = 2 - e := ⟨(2 - e).toNat, by omega⟩
  have e1 : (3 - e).toNat = n + 1 := by omega
  have e2 : (3 - (e + 1)).toNat = n := by omega
  rw [e1, e2]
  show foT K Q t s kd n (gfo (K (3 * t + (2 - (n : Int)))) (Q (3 * t + (2 - (n : Int)))) s kd (2 - (n : Int)) c) = _
  rw [show 2 - (n : Int) = e by omega]
noncomputable def fo (K Q : Int → Int) (t s kd : Int) : Int := rs K Q t (foT K Q t s kd 3 0)
/-- the same with what is so of an element: that it may be passed, that it may come again, that it comes -/
noncomputable def fsk (p : Bool) (s e : Int) : Int := if ii_and (ii_shr s (2 * e + 1)) 1 ≠ 0 ∨ (ii_and (ii_shr s (2 * e)) 1 ≠ 0 ∧ p = true) then ii_or s (ii_shl 1 (2 * e + 2)) else s
noncomputable def frk (p : Bool) (s e : Int) : Int := if (ii_and (ii_shr s (2 * e)) 1 = 1 ∧ p = true) ∨ ii_and (ii_shr s (2 * e + 1)) 1 = 1 then ii_or s (ii_shl 1 (2 * e + 2)) else ii_or s 0
noncomputable def fad (x r : Bool) (e s : Int) : Int := if x = true then ii_or s (ii_shl 1 (if r = true then 2 * e + 1 else 2 * e + 2)) else s
noncomputable def ffo (x : Bool) (e s : Int) : Int := if x = true then ii_or s (ii_shl 1 (2 * e + 1)) else ii_or s 0
noncomputable def clr (r0 r1 r2 : Bool) (s : Int) : Int := ii_and s (127 - (if r0 = true then 0 else 2) - (if r1 = true then 0 else 8) - (if r2 = true then 0 else 32))
noncomputable def bls : List Bool := [false, true]
noncomputable def gch (x0 x1 x2 : Bool) : Bool := bls.all fun p0 => bls.all fun p1 => bls.all fun p2 => bls.all fun r0 => bls.all fun r1 => bls.all fun r2 =>
  decide ((0 ≤ frk p2 (frk p1 (frk p0 (ffo x2 2 (ffo x1 1 (ffo x0 0 0))) 0) 1) 2 ∧ frk p2 (frk p1 (frk p0 (ffo x2 2 (ffo x1 1 (ffo x0 0 0))) 0) 1) 2 ≤ 127) ∧
    fsk p2 (fsk p1 (fsk p0 (fad x2 r2 2 (fad x1 r1 1 (fad x0 r0 0 0))) 0) 1) 2 = clr r0 r1 r2 (frk p2 (frk p1 (frk p0 (ffo x2 2 (ffo x1 1 (ffo x0 0 0))) 0) 1) 2) ∧
    (fsk p2 (fsk p1 (fsk p0 (fad x2 r2 2 (fad x1 r1 1 (fad x0 r0 0 0))) 0) 1) 2 = 0 → frk p2 (frk p1 (frk p0 (ffo x2 2 (ffo x1 1 (ffo x0 0 0))) 0) 1) 2 = 0))
theorem gch_0 : (bls.all fun x1 => bls.all fun x2 => gch false x1 x2) = true := by decide +kernel
theorem gch_1 : (bls.all fun x1 => bls.all fun x2 => gch true x1 x2) = true := by decide +kernel
noncomputable def gcs : Bool := bls.all fun p0 => bls.all fun p1 => bls.all fun p2 => bls.all fun r0 => bls.all fun r1 => bls.all fun r2 =>
  decide ((0 ≤ frk p2 (frk p1 (frk p0 1 0) 1) 2 ∧ frk p2 (frk p1 (frk p0 1 0) 1) 2 ≤ 127) ∧ fsk p2 (fsk p1 (fsk p0 1 0) 1) 2 = clr r0 r1 r2 (frk p2 (frk p1 (frk p0 1 0) 1) 2) ∧ fsk p2 (fsk p1 (fsk p0 1 0) 1) 2 ≠ 0)
theorem gcs_ok : gcs = true := by decide +kernel
theorem bls_all {f : Bool → Bool} (h : bls.all f = true) (b : Bool) : f b = true := List.all_eq_true.mp h b (by cases b <;> decide)
theorem gch_ok (x0 x1 x2 : Bool) : gch x0 x1 x2 = true := by
  cases x0
  · exact bls_all (bls_all gch_0 x1) x2
  · exact bls_all (bls_all gch_1 x1) x2
noncomputable def gbt (s : Int) : Bool := bls.all fun r0 => bls.all fun r1 => bls.all fun r2 =>
  decide (((ii_and (ii_shr (clr r0 r1 r2 s) (2 * 0)) 3 ≠ 0) ↔ (ii_and (ii_shr s (2 * 0)) 1 = 1 ∨ (ii_and (ii_shr s (2 * 0 + 1)) 1 = 1 ∧ r0 = true))) ∧
    ((ii_and (ii_shr (clr r0 r1 r2 s) (2 * 1)) 3 ≠ 0) ↔ (ii_and (ii_shr s (2 * 1)) 1 = 1 ∨ (ii_and (ii_shr s (2 * 1 + 1)) 1 = 1 ∧ r1 = true))) ∧
    ((ii_and (ii_shr (clr r0 r1 r2 s) (2 * 2)) 3 ≠ 0) ↔ (ii_and (ii_shr s (2 * 2)) 1 = 1 ∨ (ii_and (ii_shr s (2 * 2 + 1)) 1 = 1 ∧ r2 = true))) ∧
    (ii_and (clr r0 r1 r2 s) 64 = 0 ↔ ¬ ii_and (ii_shr s 6) 1 = 1))
theorem gbt_a : (List.range 64).all (fun n => gbt (n : Int)) = true := by decide +kernel
theorem gbt_b : (List.range 64).all (fun n => gbt ((n : Int) + 64)) = true := by decide +kernel
theorem gbt_ok {s : Int} (h0 : 0 ≤ s) (h1 : s ≤ 127) (r0 r1 r2 : Bool) : ((ii_and (ii_shr (clr r0 r1 r2 s) (2 * 0)) 3 ≠ 0) ↔ (ii_and (ii_shr s (2 * 0)) 1 = 1 ∨ (ii_and (ii_shr s (2 * 0 + 1)) 1 = 1 ∧ r0 = true))) ∧
    ((ii_and (ii_shr (clr r0 r1 r2 s) (2 * 1)) 3 ≠ 0) ↔ (ii_and (ii_shr s (2 * 1)) 1 = 1 ∨ (ii_and (ii_shr s (2 * 1 + 1)) 1 = 1 ∧ r1 = true))) ∧
    ((ii_and (ii_shr (clr r0 r1 r2 s) (2 * 2)) 3 ≠ 0) ↔ (ii_and (ii_shr s (2 * 2)) 1 = 1 ∨ (ii_and (ii_shr s (2 * 2 + 1)) 1 = 1 ∧ r2 = true))) ∧
    (ii_and (clr r0 r1 r2 s) 64 = 0 ↔ ¬ ii_and (ii_shr s 6) 1 = 1) := by
  have h : gbt s = true := by
    by_cases h2 : s < 64
    · have h3 := List.all_eq_true.mp gbt_a s.toNat (List.mem_range.mpr (by omega))
      rwa [Int.toNat_of_nonneg h0] at h3
    · have h3 := List.all_eq_true.mp gbt_b (s - 64).toNat (List.mem_range.mpr (by omega))
      rw [Int.toNat_of_nonneg (by omega)] at h3
      rwa [show s - 64 + 64 = s by omega] at h3
  exact of_decide_eq_true (bls_all (bls_all (bls_all h r0) r1) r2)
theorem hb_a : (List.range 127).all (fun k => (List.range 7).all (fun d => decide (ii_and (ii_shr (k : Int) (d : Int)) 1 = 0 ∨ ii_and (ii_shr (k : Int) (d : Int)) 1 = 1))) = true := by decide +kernel
theorem hb_ok {k d : Int} (h0 : 0 ≤ k) (h1 : k ≤ 126) (h2 : 0 ≤ d) (h3 : d ≤ 6) : ii_and (ii_shr k d) 1 = 0 ∨ ii_and (ii_shr k d) 1 = 1 := by
  have h := of_decide_eq_true (List.all_eq_true.mp (List.all_eq_true.mp hb_a k.toNat (List.mem_range.mpr (by omega))) d.toNat (List.mem_range.mpr (by omega)))
  rwa [Int.toNat_of_nonneg h0, Int.toNat_of_nonneg h2] at h
noncomputable def pas (k q : Int) : Bool := decide (k = 0 ∨ q = 1 ∨ q = 2)
noncomputable def rep (q : Int) : Bool := decide (q = 2 ∨ q = 3)
theorem gsk_f (k q s e : Int) : gsk k q s e = fsk (pas k q) s e := by
  unfold gsk fsk pas
  simp only [decide_eq_true_eq]
theorem rsk_f (k q s e : Int) : rsk k q s e = frk (pas k q) s e := by
  unfold rsk frk pas
  simp only [decide_eq_true_eq]
theorem gad_f (k q s kd e r : Int) : gad k q s kd e r = fad (decide (ii_and (ii_shr s (2 * e)) 3 ≠ 0 ∧ ii_and (ii_shr k kd) 1 ≠ 0)) (rep q) e r := by
  unfold gad fad rep
  simp only [decide_eq_true_eq]
theorem gfo_f (k q s kd e r : Int) : gfo k q s kd e r = ffo (decide (ii_and (ii_shr k kd) 1 = 1 ∧ (ii_and (ii_shr s (2 * e)) 1 = 1 ∨ (ii_and (ii_shr s (2 * e + 1)) 1 = 1 ∧ 1 < q)))) e r := by
  unfold gfo ffo
  simp only [decide_eq_true_eq]
abbrev GR (K Q : Int → Int) : Prop := ∀ i : Int, 0 ≤ i → i ≤ 17 → (0 ≤ K i ∧ K i ≤ 126) ∧ 0 ≤ Q i ∧ Q i ≤ 3
/-- a state of the class's machine and the reference's -/
abbrev SR (K Q : Int → Int) (t s r : Int) : Prop := (0 ≤ r ∧ r ≤ 127) ∧ s = clr (rep (Q (3 * t + 0))) (rep (Q (3 * t + 1))) (rep (Q (3 * t + 2))) r ∧ (s = 0 → r = 0)
theorem sk_f (K Q : Int → Int) (t s : Int) : sk K Q t s = fsk (pas (K (3 * t + 2)) (Q (3 * t + 2))) (fsk (pas (K (3 * t + 1)) (Q (3 * t + 1))) (fsk (pas (K (3 * t + 0)) (Q (3 * t + 0))) s 0) 1) 2 := by
  show gsk (K (3 * t + 2)) (Q (3 * t + 2)) (gsk (K (3 * t + 1)) (Q (3 * t + 1)) (gsk (K (3 * t + 0)) (Q (3 * t + 0)) s 0) 1) 2 = _
  rw [gsk_f, gsk_f, gsk_f]
theorem rs_f (K Q : Int → Int) (t s : Int) : rs K Q t s = frk (pas (K (3 * t + 2)) (Q (3 * t + 2))) (frk (pas (K (3 * t + 1)) (Q (3 * t + 1))) (frk (pas (K (3 * t + 0)) (Q (3 * t + 0))) s 0) 1) 2 := by
  show rsk (K (3 * t + 2)) (Q (3 * t + 2)) (rsk (K (3 * t + 1)) (Q (3 * t + 1)) (rsk (K (3 * t + 0)) (Q (3 * t + 0)) s 0) 1) 2 = _
  rw [rsk_f, rsk_f, rsk_f]
theorem SR_start (K Q : Int → Int) (t : Int) : SR K Q t (sk K Q t 1) (rs K Q t 1) := by
  have h := of_decide_eq_true (bls_all (bls_all (bls_all (bls_all (bls_all (bls_all gcs_ok (pas (K (3 * t + 0)) (Q (3 * t + 0)))) (pas (K (3 * t + 1)) (Q (3 * t + 1)))) (pas (K (3 * t + 2)) (Q (3 * t + 2)))) (rep (Q (3 * t + 0)))) (rep (Q (3 * t + 1)))) (rep (Q (3 * t + 2))))
  rw [← sk_f, ← rs_f] at h
  exact ⟨h.1, h.2.1, fun e => absurd e h.2.2⟩
theorem SR_step {K Q : Int → Int} (hG : GR K Q) {t s r kd : Int} (h5 : 0 ≤ t ∧ t ≤ 5) (hk : 1 ≤ kd ∧ kd ≤ 6) (h : SR K Q t s r) : SR K Q t (ad K Q t s kd) (fo K Q t r kd) := by
  obtain ⟨⟨h0, h1⟩, h2, h3⟩ := h
  have hb := gbt_ok h0 h1 (rep (Q (3 * t + 0))) (rep (Q (3 * t + 1))) (rep (Q (3 * t + 2)))
  rw [← h2] at hb
  have hx : ∀ e : Int, 0 ≤ e → e ≤ 2 → ((ii_and (ii_shr s (2 * e)) 3 ≠ 0) ↔ (ii_and (ii_shr r (2 * e)) 1 = 1 ∨ (ii_and (ii_shr r (2 * e + 1)) 1 = 1 ∧ rep (Q (3 * t + e)) = true))) → decide (ii_and (ii_shr s (2 * e)) 3 ≠ 0 ∧ ii_and (ii_shr (K (3 * t + e)) kd) 1 ≠ 0) = decide (ii_and (ii_shr (K (3 * t + e)) kd) 1 = 1 ∧ (ii_and (ii_shr r (2 * e)) 1 = 1 ∨ (ii_and (ii_shr r (2 * e + 1)) 1 = 1 ∧ 1 < Q (3 * t + e)))) := fun e e0 e2 hh => by
    have hg := hG (3 * t + e) (by omega) (by omega)
    have hkb := hb_ok hg.1.1 hg.1.2 (by omega : 0 ≤ kd) (by omega : kd ≤ 6)
    have hq : rep (Q (3 * t + e)) = true ↔ 1 < Q (3 * t + e) := by
      unfold rep
      rw [decide_eq_true_eq]
      omega
    rw [hq] at hh
    apply decide_eq_decide.mpr
    omega
  have x0 := hx 0 (by decide) (by decide) hb.1
  have x1 := hx 1 (by decide) (by decide) hb.2.1
  have x2 := hx 2 (by decide) (by decide) hb.2.2.1
  have ea : adT K Q t s kd 3 0 = fad (decide (ii_and (ii_shr s (2 * 2)) 3 ≠ 0 ∧ ii_and (ii_shr (K (3 * t + 2)) kd) 1 ≠ 0)) (rep (Q (3 * t + 2))) 2 (fad (decide (ii_and (ii_shr s (2 * 1)) 3 ≠ 0 ∧ ii_and (ii_shr (K (3 * t + 1)) kd) 1 ≠ 0)) (rep (Q (3 * t + 1))) 1 (fad (decide (ii_and (ii_shr s (2 * 0)) 3 ≠ 0 ∧ ii_and (ii_shr (K (3 * t + 0)) kd) 1 ≠ 0)) (rep (Q (3 * t + 0))) 0 0)) := by
    show gad (K (3 * t + 2)) (Q (3 * t + 2)) s kd 2 (gad (K (3 * t + 1)) (Q (3 * t + 1)) s kd 1 (gad (K (3 * t + 0)) (Q (3 * t + 0)) s kd 0 0)) = _
    rw [gad_f, gad_f, gad_f]
  have ef : foT K Q t r kd 3 0 = ffo (decide (ii_and (ii_shr (K (3 * t + 2)) kd) 1 = 1 ∧ (ii_and (ii_shr r (2 * 2)) 1 = 1 ∨ (ii_and (ii_shr r (2 * 2 + 1)) 1 = 1 ∧ 1 < Q (3 * t + 2))))) 2 (ffo (decide (ii_and (ii_shr (K (3 * t + 1)) kd) 1 = 1 ∧ (ii_and (ii_shr r (2 * 1)) 1 = 1 ∨ (ii_and (ii_shr r (2 * 1 + 1)) 1 = 1 ∧ 1 < Q (3 * t + 1))))) 1 (ffo (decide (ii_and (ii_shr (K (3 * t + 0)) kd) 1 = 1 ∧ (ii_and (ii_shr r (2 * 0)) 1 = 1 ∨ (ii_and (ii_shr r (2 * 0 + 1)) 1 = 1 ∧ 1 < Q (3 * t + 0))))) 0 0)) := by
    show gfo (K (3 * t + 2)) (Q (3 * t + 2)) r kd 2 (gfo (K (3 * t + 1)) (Q (3 * t + 1)) r kd 1 (gfo (K (3 * t + 0)) (Q (3 * t + 0)) r kd 0 0)) = _
    rw [gfo_f, gfo_f, gfo_f]
  rw [← x0, ← x1, ← x2] at ef
  have hc := of_decide_eq_true (bls_all (bls_all (bls_all (bls_all (bls_all (bls_all (gch_ok (decide (ii_and (ii_shr s (2 * 0)) 3 ≠ 0 ∧ ii_and (ii_shr (K (3 * t + 0)) kd) 1 ≠ 0)) (decide (ii_and (ii_shr s (2 * 1)) 3 ≠ 0 ∧ ii_and (ii_shr (K (3 * t + 1)) kd) 1 ≠ 0)) (decide (ii_and (ii_shr s (2 * 2)) 3 ≠ 0 ∧ ii_and (ii_shr (K (3 * t + 2)) kd) 1 ≠ 0))) (pas (K (3 * t + 0)) (Q (3 * t + 0)))) (pas (K (3 * t + 1)) (Q (3 * t + 1)))) (pas (K (3 * t + 2)) (Q (3 * t + 2)))) (rep (Q (3 * t + 0)))) (rep (Q (3 * t + 1)))) (rep (Q (3 * t + 2))))
  rw [← ea, ← ef, ← sk_f, ← rs_f] at hc
  exact hc
theorem SR_end {K Q : Int → Int} {t s r : Int} (h : SR K Q t s r) : ii_and s 64 = 0 ↔ ¬ ii_and (ii_shr r 6) 1 = 1 := by
  have hb := (gbt_ok h.1.1 h.1.2 (rep (Q (3 * t + 0))) (rep (Q (3 * t + 1))) (rep (Q (3 * t + 2)))).2.2.2
  rw [← h.2.1] at hb
  exact hb
theorem fo_0 {K Q : Int → Int} {t kd : Int} : fo K Q t 0 kd = 0 := by
  have h1 : ∀ k q e : Int, 0 ≤ e → e ≤ 2 → gfo k q 0 kd e 0 = 0 := fun k q e h0 h2 => by
    have hz : ∀ n : Nat, n < 6 → ii_and (ii_shr 0 (n : Int)) 1 = 0 := by decide +kernel
    have ha := hz (2 * e).toNat (by omega)
    have hb := hz (2 * e + 1).toNat (by omega)
    rw [Int.toNat_of_nonneg (by omega)] at ha hb
    unfold gfo
    rw [if_neg (by omega)]
    decide +kernel
  have h2 : ∀ k q e : Int, 0 ≤ e → e ≤ 2 → rsk k q 0 e = 0 := fun k q e h0 h2 => by
    have hz : ∀ n : Nat, n < 6 → ii_and (ii_shr 0 (n : Int)) 1 = 0 := by decide +kernel
    have ha := hz (2 * e).toNat (by omega)
    have hb := hz (2 * e + 1).toNat (by omega)
    rw [Int.toNat_of_nonneg (by omega)] at ha hb
    unfold rsk
    rw [if_neg (by omega)]
    decide +kernel
  show rsk _ _ (rsk _ _ (rsk _ _ (gfo _ _ 0 kd 2 (gfo _ _ 0 kd 1 (gfo _ _ 0 kd 0 0))) 0) 1) 2 = 0
  rw [h1 _ _ 0 (by decide) (by decide), h1 _ _ 1 (by decide) (by decide), h1 _ _ 2 (by decide) (by decide), h2 _ _ 0 (by decide) (by decide), h2 _ _ 1 (by decide) (by decide), h2 _ _ 2 (by decide) (by decide)]
/-! ===== the reference's reading of a document against the class's ===== -/
noncomputable def SRs (K Q : Int → Int) : List (Int × Int) → List (Int × Int) → Prop
  | [], [] => True
  | (t, s) :: r, (t', s') :: r' => t = t' ∧ (0 ≤ t' ∧ t' ≤ 5) ∧ SR K Q t' s s' ∧ SRs K Q r r'
  | _, _ => False
theorem and1 (x : Int) : ii_and x 1 = 0 ∨ ii_and x 1 = 1 := by
  have e : (Int32.ofInt 1).toBitVec.toNat = 1 := by decide +kernel
  have h : (Int32.ofInt x &&& Int32.ofInt 1).toBitVec.toNat ≤ 1 := by
    show ((Int32.ofInt x).toBitVec &&& (Int32.ofInt 1).toBitVec).toNat ≤ 1
    rw [BitVec.toNat_and, e]
    exact Nat.and_le_right
  have h2 : (Int32.ofInt x &&& Int32.ofInt 1).toInt = ((Int32.ofInt x &&& Int32.ofInt 1).toBitVec.toNat : Int) := by
    show BitVec.toInt _ = _
    exact BitVec.toInt_eq_toNat_of_lt (by omega)
  unfold ii_and
  rw [h2]
  omega
/-- how far the reading of l has come: both machines go on alike, or both have failed -/
abbrev LV (K Q : Int → Int) (l : List Int) (k : Nat) (M : mem) (d : Int) : Prop := (∃ stk, accR K Q (l.take k) = some stk ∧ SRs K Q stk (stkL 881 882 M d.toNat)) ∨ (accR K Q (l.take k) = none ∧ ∃ j : Int, 0 ≤ j ∧ j ≤ d ∧ M 882 j = 0)
section LV
variable {K Q : Int → Int} {l : List Int} {k : Nat} {M : mem} {d x v : Int} {stk : List (Int × Int)}
theorem SRs_cons {a b : Int} {r' : List (Int × Int)} (h : SRs K Q stk ((a, b) :: r')) : ∃ s r, stk = (a, s) :: r ∧ (0 ≤ a ∧ a ≤ 5) ∧ SR K Q a s b ∧ SRs K Q r r' := by
  match stk, h with
  | (t, s) :: r, h =>
    obtain ⟨h1, h2, h3, h4⟩ := h
    subst h1
    exact ⟨s, r, rfl, h2, h3, h4⟩
theorem SRs_nil {r : List (Int × Int)} : SRs K Q r [] ↔ r = [] := by
  cases r with
  | nil => exact ⟨fun _ => rfl, fun _ => True.intro⟩
  | cons x r => exact ⟨fun h => False.elim h, fun h => absurd h (List.cons_ne_nil _ _)⟩
theorem stkL_cons' {a b : Nat} {n : Nat} : ∃ p r, stkL a b M n = p :: r := by
  cases n with
  | zero => exact ⟨_, _, rfl⟩
  | succ n => exact ⟨_, _, rfl⟩
theorem SRs_rest {r : List (Int × Int)} (h : SRs K Q r (if d = 0 then [] else stkL 881 882 M (d - 1).toNat)) : (r = [] ↔ d = 0) ∧ (d ≠ 0 → SRs K Q r (stkL 881 882 M (d - 1).toNat)) := by
  by_cases e : d = 0
  · rw [if_pos e] at h
    exact ⟨⟨fun _ => e, fun _ => SRs_nil.mp h⟩, fun h2 => absurd e h2⟩
  · rw [if_neg e] at h
    refine ⟨⟨fun h2 => ?_, fun h2 => absurd h2 e⟩, fun _ => h⟩
    subst h2
    obtain ⟨p, r, e2⟩ := stkL_cons' (M := M) (a := 881) (b := 882) (n := (d - 1).toNat)
    rw [e2] at h
    exact False.elim h
theorem astp_0 {t s x : Int} {r : List (Int × Int)} (hx : x = 0) : astp K Q (some ((t, s) :: r)) x = if r = [] ∨ ii_and s 64 = 0 then none else some r := by
  show (if x = 0 then (if r = [] ∨ ii_and s 64 = 0 then none else some r) else _) = _
  rw [if_pos hx]
theorem LV_start (hx : M 881 0 = 0) (hy : M 882 0 = rs K Q 0 1) : LV K Q l 0 M 0 := by
  refine Or.inl ⟨[(0, sk K Q 0 1)], rfl, ?_⟩
  show SRs K Q [(0, sk K Q 0 1)] [(M 881 0, M 882 0)]
  rw [hx, hy]
  exact ⟨rfl, by decide, SR_start K Q 0, True.intro⟩
theorem bit6_0 : ¬ ii_and (ii_shr 0 6) 1 = 1 := by decide +kernel
theorem LV_close (h : LV K Q l k M d) (hd : 0 ≤ d) (hk : k < l.length) (hx : l.getD k 0 = 0) (h0 : d ≠ 0) (hb : ii_and (ii_shr (M 882 d) 6) 1 = 1) : LV K Q l (k + 1) M (d - 1) := by
  rcases h with ⟨stk, h1, h2⟩ | ⟨h1, j, j0, j1, j2⟩
  · rw [stkL_cons hd] at h2
    obtain ⟨s, r, rfl, h5, h6, h7⟩ := SRs_cons h2
    obtain ⟨h8, h9⟩ := SRs_rest h7
    refine Or.inl ⟨r, ?_, h9 h0⟩
    rw [accR_take hk, h1, astp_0 hx, if_neg (fun e => e.elim (fun e2 => h0 (h8.mp e2)) (fun e2 => (SR_end h6).mp e2 hb))]
  · refine Or.inr ⟨?_, j, j0, ?_, j2⟩
    · rw [accR_take hk, h1]
      rfl
    · by_cases e : j = d
      · subst e
        rw [j2] at hb
        exact absurd hb bit6_0
      · omega
theorem LV_closeN (h : LV K Q l k M d) (hd : 0 ≤ d) (hk : k < l.length) (hx : l.getD k 0 = 0) (h0 : d = 0 ∨ ¬ ii_and (ii_shr (M 882 d) 6) 1 = 1) : ¬ acc K Q l := by
  refine acc_none (accR_none (k + 1) ?_)
  rcases h with ⟨stk, h1, h2⟩ | ⟨h1, -⟩
  · rw [stkL_cons hd] at h2
    obtain ⟨s, r, rfl, h5, h6, h7⟩ := SRs_cons h2
    obtain ⟨h8, h9⟩ := SRs_rest h7
    rw [accR_take hk, h1, astp_0 hx, if_pos (h0.elim (fun e => Or.inl (h8.mpr e)) (fun e => Or.inr ((SR_end h6).mpr e)))]
  · rw [accR_take hk, h1]
    rfl
theorem LV_char (hG : GR K Q) (h : LV K Q l k M d) (hd : 0 ≤ d) (hk : k < l.length) (hx : l.getD k 0 = x) (hx0 : x ≠ 0) (hx5 : ¬ (1 ≤ x ∧ x ≤ 5)) (hv : v = fo K Q (M 881 d) (M 882 d) 6) : LV K Q l (k + 1) (um M 882 d v) d := by
  rcases h with ⟨stk, h1, h2⟩ | ⟨h1, j, j0, j1, j2⟩
  · rw [stkL_cons hd] at h2
    obtain ⟨s, r, rfl, h5, h6, h7⟩ := SRs_cons h2
    have h8 := SR_step hG h5 (kd := 6) (by decide) h6
    rw [← hv] at h8
    have ht : accR K Q (l.take (k + 1)) = (if ad K Q (M 881 d) s 6 = 0 then none else some ((M 881 d, ad K Q (M 881 d) s 6) :: r)) := by
      rw [accR_take hk, h1, hx]
      show (if x = 0 then _ else if ad K Q (M 881 d) s (if 1 ≤ x ∧ x ≤ 5 then x else 6) = 0 then none else if 1 ≤ x ∧ x ≤ 5 then _ else _) = _
      rw [if_neg hx0, if_neg hx5, if_neg hx5]
    by_cases e : ad K Q (M 881 d) s 6 = 0
    · rw [if_pos e] at ht
      exact Or.inr ⟨ht, d, hd, Int.le_refl d, by rw [um_eq]; exact h8.2.2 e⟩
    · rw [if_neg e] at ht
      refine Or.inl ⟨_, ht, ?_⟩
      rw [stkL_set hd (by decide)]
      exact ⟨rfl, h5, h8, h7⟩
  · refine Or.inr ⟨?_, j, j0, j1, ?_⟩
    · rw [accR_take hk, h1]
      rfl
    · by_cases e : j = d
      · subst e
        rw [um_eq, hv, j2]
        exact fo_0
      · rw [um_j e]
        exact j2
theorem LV_open (hG : GR K Q) (h : LV K Q l k M d) (hd : 0 ≤ d) (hk : k < l.length) (hx : l.getD k 0 = x) (hx5 : 1 ≤ x ∧ x ≤ 5) (hv : v = fo K Q (M 881 d) (M 882 d) x) {w : Int} (hw : w = rs K Q x 1) : LV K Q l (k + 1) (um (um (um M 882 d v) 881 (d + 1) x) 882 (d + 1) w) (d + 1) := by
  rcases h with ⟨stk, h1, h2⟩ | ⟨h1, j, j0, j1, j2⟩
  · rw [stkL_cons hd] at h2
    obtain ⟨s, r, rfl, h5, h6, h7⟩ := SRs_cons h2
    have h8 := SR_step hG h5 (kd := x) (by omega) h6
    rw [← hv] at h8
    have ht : accR K Q (l.take (k + 1)) = (if ad K Q (M 881 d) s x = 0 then none else some ((x, sk K Q x 1) :: (M 881 d, ad K Q (M 881 d) s x) :: r)) := by
      rw [accR_take hk, h1, hx]
      show (if x = 0 then _ else if ad K Q (M 881 d) s (if 1 ≤ x ∧ x ≤ 5 then x else 6) = 0 then none else if 1 ≤ x ∧ x ≤ 5 then _ else _) = _
      rw [if_neg (by omega), if_pos hx5, if_pos hx5]
    by_cases e : ad K Q (M 881 d) s x = 0
    · rw [if_pos e] at ht
      refine Or.inr ⟨ht, d, hd, by omega, ?_⟩
      rw [um_j (by omega), um_k (by decide), um_eq]
      exact h8.2.2 e
    · rw [if_neg e] at ht
      refine Or.inl ⟨_, ht, ?_⟩
      rw [stkL_push hd (by decide), stkL_set hd (by decide)]
      refine ⟨rfl, by omega, ?_, rfl, h5, h8, h7⟩
      rw [hw]
      exact SR_start K Q x
  · refine Or.inr ⟨?_, j, j0, by omega, ?_⟩
    · rw [accR_take hk, h1]
      rfl
    · rw [um_j (by omega), um_k (by decide)]
      by_cases e : j = d
      · subst e
        rw [um_eq, hv, j2]
        exact fo_0
      · rw [um_j e]
        exact j2
theorem LV_end (h : LV K Q l l.length M d) (hd : 0 ≤ d) : acc K Q l ↔ d = 0 ∧ ii_and (ii_shr (M 882 0) 6) 1 = 1 := by
  rw [LV, List.take_length] at h
  rcases h with ⟨stk, h1, h2⟩ | ⟨h1, j, j0, j1, j2⟩
  · rw [stkL_cons hd] at h2
    obtain ⟨s, r, rfl, h5, h6, h7⟩ := SRs_cons h2
    obtain ⟨h8, h9⟩ := SRs_rest h7
    have h10 := SR_end h6
    constructor
    · rintro ⟨t, s', h3, h4⟩
      rw [h1] at h3
      have h11 := List.cons.inj (Option.some.inj h3)
      have h12 := h8.mp h11.2
      have h13 : s = s' := (Prod.mk.inj h11.1).2
      subst h13 h12
      exact ⟨rfl, Classical.not_not.mp (fun e => h4 (h10.mpr e))⟩
    · rintro ⟨rfl, h4⟩
      refine ⟨M 881 0, s, ?_, fun e => h10.mp e h4⟩
      rw [h1, h8.mpr rfl]
  · constructor
    · intro h3
      exact absurd h3 (acc_none h1)
    · rintro ⟨rfl, h4⟩
      have e : j = 0 := by omega
      subst e
      rw [j2] at h4
      exact absurd h4 bit6_0
end LV

set_option maxRecDepth 100000 in
set_option maxHeartbeats 4000000 in
theorem x_spreads {X : scr} {M : mem} {t a : Int} (rt : inR t) (ra : inR a) (ht : 0 ≤ t ∧ t ≤ 5) : At X 0 99 0 [vr 856, vi t, vi a] [] M (qI (fun x M' => M' = M ∧ x = rs (M 857) (M 858) t a)) := by
  have lp : ∀ (n : Nat) (c e : Int) (rc : inR c) (re : inR e) (h0 : 0 ≤ e ∧ e ≤ 3) (hn : (3 - e).toNat = n) (hv : rsT (M 857) (M 858) t (3 - e).toNat c = rs (M 857) (M 858) t a), At X 0 99 4 [vr 856, vi t, vi a, vi c, vi e] [] M (qI (fun x M' => M' = M ∧ x = rs (M 857) (M 858) t a)) := by
    intro n
    induction n using Nat.strongRecOn with
    | ind n ih =>
    intro c e rc re h0 hn hv
    refine at_iload dx_99_4 rfl ?_
    refine at_const (x := 3) dx_99_5 rfl ?_
    refine at_cgeR dx_99_6 re (by decide) (fun c6 => ?_) (fun c6 => ?_)
    · skip
      refine at_iload dx_99_65 rfl ?_
      refine at_iretI dx_99_66 rc ?_
      have e3 : e = 3 := by omega
      subst e3
      exact ⟨rfl, hv⟩
    · skip
      refine at_iload dx_99_7 rfl ?_
      refine at_const (x := 2) dx_99_8 rfl ?_
      refine at_iload dx_99_9 rfl ?_
      refine at_mulR dx_99_10 (by constructor <;> omega) (fun r10 => ?_)
      refine at_shr dx_99_11 ?_
      refine at_const (x := 1) dx_99_12 rfl ?_
      refine at_and dx_99_13 ?_
      refine at_const (x := 1) dx_99_14 rfl ?_
      refine at_cneR dx_99_15 (inR_and _ _) (by decide) (fun c15 => ?_) (fun c15 => ?_)
      · skip
        refine at_iload dx_99_25 rfl ?_
        refine at_const (x := 2) dx_99_26 rfl ?_
        refine at_iload dx_99_27 rfl ?_
        refine at_mulR dx_99_28 (by constructor <;> omega) (fun r28 => ?_)
        refine at_const (x := 1) dx_99_29 rfl ?_
        refine at_addR dx_99_30 (by constructor <;> omega) (fun r30 => ?_)
        refine at_shr dx_99_31 ?_
        refine at_const (x := 1) dx_99_32 rfl ?_
        refine at_and dx_99_33 ?_
        refine at_const (x := 1) dx_99_34 rfl ?_
        refine at_cneR dx_99_35 (inR_and _ _) (by decide) (fun c35 => ?_) (fun c35 => ?_)
        · skip
          refine at_const (x := 0) dx_99_47 rfl ?_
          refine at_istore dx_99_48 ?_
          refine at_iload dx_99_49 rfl ?_
          refine at_iload dx_99_50 rfl ?_
          refine at_zeqR dx_99_51 (by decide) (fun _ => ?_) (fun c => absurd c (by decide))
          refine at_const (x := 0) dx_99_60 rfl ?_
          refine at_or dx_99_61 ?_
          refine at_istore dx_99_62 ?_
          refine at_iincR (y := 1) dx_99_63 rfl rfl (by constructor <;> omega) (fun r63 => ?_)
          refine at_goto dx_99_64 ?_
          refine at_wk (ls := [vr 856, vi _, vi _, vi _, vi _]) ⟨Or.inl rfl, Or.inl rfl, Or.inl rfl, Or.inl rfl, Or.inl rfl, trivial⟩ ?_
          first
          | (exfalso; omega)
          | (refine ih _ (by omega) _ _ (inR_or _ _) r63 (by omega) rfl ?_
             rw [← hv, rsT_step (c := c) h0.1 (by omega)]
             refine congrArg (rsT (M 857) (M 858) t _) ?_
             unfold rsk
             first
             | (rw [if_pos (by first | omega | (split at h23 <;> omega) | (split at h43 <;> omega))]; done)
             | (rw [if_neg (by first | omega | (split at h23 <;> omega) | (split at h23 <;> split at h43 <;> omega) | (split at h43 <;> omega))]; done))
        · skip
          refine at_aload dx_99_36 rfl ?_
          refine at_const (x := 3) dx_99_37 rfl ?_
          refine at_iload dx_99_38 rfl ?_
          refine at_mulR dx_99_39 (by constructor <;> omega) (fun r39 => ?_)
          refine at_iload dx_99_40 rfl ?_
          refine at_addR dx_99_41 (by constructor <;> omega) (fun r41 => ?_)
          refine at_const (x := 1) dx_99_42 rfl ?_
          refine at_callVI dx_99_43 rfl lc_856 rfl (m_isDone r41 (by decide) (by omega)) ?_
          rintro x43 M9 r43 ⟨e9, h43⟩; replace e9 := e9.symm; subst e9
          refine at_zeqR dx_99_44 r43 (fun c44 => ?_) (fun c44 => ?_)
          · skip
            refine at_const (x := 0) dx_99_47 rfl ?_
            refine at_istore dx_99_48 ?_
            refine at_iload dx_99_49 rfl ?_
            refine at_iload dx_99_50 rfl ?_
            refine at_zeqR dx_99_51 (by decide) (fun _ => ?_) (fun c => absurd c (by decide))
            refine at_const (x := 0) dx_99_60 rfl ?_
            refine at_or dx_99_61 ?_
            refine at_istore dx_99_62 ?_
            refine at_iincR (y := 1) dx_99_63 rfl rfl (by constructor <;> omega) (fun r63 => ?_)
            refine at_goto dx_99_64 ?_
            refine at_wk (ls := [vr 856, vi _, vi _, vi _, vi _]) ⟨Or.inl rfl, Or.inl rfl, Or.inl rfl, Or.inl rfl, Or.inl rfl, trivial⟩ ?_
            first
            | (exfalso; omega)
            | (refine ih _ (by omega) _ _ (inR_or _ _) r63 (by omega) rfl ?_
               rw [← hv, rsT_step (c := c) h0.1 (by omega)]
               refine congrArg (rsT (M 857) (M 858) t _) ?_
               unfold rsk
               first
               | (rw [if_pos (by first | omega | (split at h23 <;> omega) | (split at h43 <;> omega))]; done)
               | (rw [if_neg (by first | omega | (split at h23 <;> omega) | (split at h23 <;> split at h43 <;> omega) | (split at h43 <;> omega))]; done))
          · skip
            refine at_const (x := 1) dx_99_45 rfl ?_
            refine at_goto dx_99_46 ?_
            refine at_istore dx_99_48 ?_
            refine at_iload dx_99_49 rfl ?_
            refine at_iload dx_99_50 rfl ?_
            refine at_zeqR dx_99_51 (by decide) (fun c => absurd c (by decide)) (fun _ => ?_)
            refine at_const (x := 1) dx_99_52 rfl ?_
            refine at_const (x := 2) dx_99_53 rfl ?_
            refine at_iload dx_99_54 rfl ?_
            refine at_mulR dx_99_55 (by constructor <;> omega) (fun r55 => ?_)
            refine at_const (x := 2) dx_99_56 rfl ?_
            refine at_addR dx_99_57 (by constructor <;> omega) (fun r57 => ?_)
            refine at_shl dx_99_58 ?_
            refine at_goto dx_99_59 ?_
            refine at_or dx_99_61 ?_
            refine at_istore dx_99_62 ?_
            refine at_iincR (y := 1) dx_99_63 rfl rfl (by constructor <;> omega) (fun r63 => ?_)
            refine at_goto dx_99_64 ?_
            refine at_wk (ls := [vr 856, vi _, vi _, vi _, vi _]) ⟨Or.inl rfl, Or.inl rfl, Or.inl rfl, Or.inl rfl, Or.inl rfl, trivial⟩ ?_
            first
            | (exfalso; omega)
            | (refine ih _ (by omega) _ _ (inR_or _ _) r63 (by omega) rfl ?_
               rw [← hv, rsT_step (c := c) h0.1 (by omega)]
               refine congrArg (rsT (M 857) (M 858) t _) ?_
               unfold rsk
               first
               | (rw [if_pos (by first | omega | (split at h23 <;> omega) | (split at h43 <;> omega))]; done)
               | (rw [if_neg (by first | omega | (split at h23 <;> omega) | (split at h23 <;> split at h43 <;> omega) | (split at h43 <;> omega))]; done))
      · skip
        refine at_aload dx_99_16 rfl ?_
        refine at_const (x := 3) dx_99_17 rfl ?_
        refine at_iload dx_99_18 rfl ?_
        refine at_mulR dx_99_19 (by constructor <;> omega) (fun r19 => ?_)
        refine at_iload dx_99_20 rfl ?_
        refine at_addR dx_99_21 (by constructor <;> omega) (fun r21 => ?_)
        refine at_const (x := 0) dx_99_22 rfl ?_
        refine at_callVI dx_99_23 rfl lc_856 rfl (m_isDone r21 (by decide) (by omega)) ?_
        rintro x23 M9 r23 ⟨e9, h23⟩; replace e9 := e9.symm; subst e9
        refine at_zneR dx_99_24 r23 (fun c24 => ?_) (fun c24 => ?_)
        · skip
          refine at_const (x := 1) dx_99_45 rfl ?_
          refine at_goto dx_99_46 ?_
          refine at_istore dx_99_48 ?_
          refine at_iload dx_99_49 rfl ?_
          refine at_iload dx_99_50 rfl ?_
          refine at_zeqR dx_99_51 (by decide) (fun c => absurd c (by decide)) (fun _ => ?_)
          refine at_const (x := 1) dx_99_52 rfl ?_
          refine at_const (x := 2) dx_99_53 rfl ?_
          refine at_iload dx_99_54 rfl ?_
          refine at_mulR dx_99_55 (by constructor <;> omega) (fun r55 => ?_)
          refine at_const (x := 2) dx_99_56 rfl ?_
          refine at_addR dx_99_57 (by constructor <;> omega) (fun r57 => ?_)
          refine at_shl dx_99_58 ?_
          refine at_goto dx_99_59 ?_
          refine at_or dx_99_61 ?_
          refine at_istore dx_99_62 ?_
          refine at_iincR (y := 1) dx_99_63 rfl rfl (by constructor <;> omega) (fun r63 => ?_)
          refine at_goto dx_99_64 ?_
          refine at_wk (ls := [vr 856, vi _, vi _, vi _, vi _]) ⟨Or.inl rfl, Or.inl rfl, Or.inl rfl, Or.inl rfl, Or.inl rfl, trivial⟩ ?_
          first
          | (exfalso; omega)
          | (refine ih _ (by omega) _ _ (inR_or _ _) r63 (by omega) rfl ?_
             rw [← hv, rsT_step (c := c) h0.1 (by omega)]
             refine congrArg (rsT (M 857) (M 858) t _) ?_
             unfold rsk
             first
             | (rw [if_pos (by first | omega | (split at h23 <;> omega) | (split at h43 <;> omega))]; done)
             | (rw [if_neg (by first | omega | (split at h23 <;> omega) | (split at h23 <;> split at h43 <;> omega) | (split at h43 <;> omega))]; done))
        · skip
          refine at_iload dx_99_25 rfl ?_
          refine at_const (x := 2) dx_99_26 rfl ?_
          refine at_iload dx_99_27 rfl ?_
          refine at_mulR dx_99_28 (by constructor <;> omega) (fun r28 => ?_)
          refine at_const (x := 1) dx_99_29 rfl ?_
          refine at_addR dx_99_30 (by constructor <;> omega) (fun r30 => ?_)
          refine at_shr dx_99_31 ?_
          refine at_const (x := 1) dx_99_32 rfl ?_
          refine at_and dx_99_33 ?_
          refine at_const (x := 1) dx_99_34 rfl ?_
          refine at_cneR dx_99_35 (inR_and _ _) (by decide) (fun c35 => ?_) (fun c35 => ?_)
          · skip
            refine at_const (x := 0) dx_99_47 rfl ?_
            refine at_istore dx_99_48 ?_
            refine at_iload dx_99_49 rfl ?_
            refine at_iload dx_99_50 rfl ?_
            refine at_zeqR dx_99_51 (by decide) (fun _ => ?_) (fun c => absurd c (by decide))
            refine at_const (x := 0) dx_99_60 rfl ?_
            refine at_or dx_99_61 ?_
            refine at_istore dx_99_62 ?_
            refine at_iincR (y := 1) dx_99_63 rfl rfl (by constructor <;> omega) (fun r63 => ?_)
            refine at_goto dx_99_64 ?_
            refine at_wk (ls := [vr 856, vi _, vi _, vi _, vi _]) ⟨Or.inl rfl, Or.inl rfl, Or.inl rfl, Or.inl rfl, Or.inl rfl, trivial⟩ ?_
            first
            | (exfalso; omega)
            | (refine ih _ (by omega) _ _ (inR_or _ _) r63 (by omega) rfl ?_
               rw [← hv, rsT_step (c := c) h0.1 (by omega)]
               refine congrArg (rsT (M 857) (M 858) t _) ?_
               unfold rsk
               first
               | (rw [if_pos (by first | omega | (split at h23 <;> omega) | (split at h43 <;> omega))]; done)
               | (rw [if_neg (by first | omega | (split at h23 <;> omega) | (split at h23 <;> split at h43 <;> omega) | (split at h43 <;> omega))]; done))
          · skip
            refine at_aload dx_99_36 rfl ?_
            refine at_const (x := 3) dx_99_37 rfl ?_
            refine at_iload dx_99_38 rfl ?_
            refine at_mulR dx_99_39 (by constructor <;> omega) (fun r39 => ?_)
            refine at_iload dx_99_40 rfl ?_
            refine at_addR dx_99_41 (by constructor <;> omega) (fun r41 => ?_)
            refine at_const (x := 1) dx_99_42 rfl ?_
            refine at_callVI dx_99_43 rfl lc_856 rfl (m_isDone r41 (by decide) (by omega)) ?_
            rintro x43 M9 r43 ⟨e9, h43⟩; replace e9 := e9.symm; subst e9
            refine at_zeqR dx_99_44 r43 (fun c44 => ?_) (fun c44 => ?_)
            · skip
              refine at_const (x := 0) dx_99_47 rfl ?_
              refine at_istore dx_99_48 ?_
              refine at_iload dx_99_49 rfl ?_
              refine at_iload dx_99_50 rfl ?_
              refine at_zeqR dx_99_51 (by decide) (fun _ => ?_) (fun c => absurd c (by decide))
              refine at_const (x := 0) dx_99_60 rfl ?_
              refine at_or dx_99_61 ?_
              refine at_istore dx_99_62 ?_
              refine at_iincR (y := 1) dx_99_63 rfl rfl (by constructor <;> omega) (fun r63 => ?_)
              refine at_goto dx_99_64 ?_
              refine at_wk (ls := [vr 856, vi _, vi _, vi _, vi _]) ⟨Or.inl rfl, Or.inl rfl, Or.inl rfl, Or.inl rfl, Or.inl rfl, trivial⟩ ?_
              first
              | (exfalso; omega)
              | (refine ih _ (by omega) _ _ (inR_or _ _) r63 (by omega) rfl ?_
                 rw [← hv, rsT_step (c := c) h0.1 (by omega)]
                 refine congrArg (rsT (M 857) (M 858) t _) ?_
                 unfold rsk
                 first
                 | (rw [if_pos (by first | omega | (split at h23 <;> omega) | (split at h43 <;> omega))]; done)
                 | (rw [if_neg (by first | omega | (split at h23 <;> omega) | (split at h23 <;> split at h43 <;> omega) | (split at h43 <;> omega))]; done))
            · skip
              refine at_const (x := 1) dx_99_45 rfl ?_
              refine at_goto dx_99_46 ?_
              refine at_istore dx_99_48 ?_
              refine at_iload dx_99_49 rfl ?_
              refine at_iload dx_99_50 rfl ?_
              refine at_zeqR dx_99_51 (by decide) (fun c => absurd c (by decide)) (fun _ => ?_)
              refine at_const (x := 1) dx_99_52 rfl ?_
              refine at_const (x := 2) dx_99_53 rfl ?_
              refine at_iload dx_99_54 rfl ?_
              refine at_mulR dx_99_55 (by constructor <;> omega) (fun r55 => ?_)
              refine at_const (x := 2) dx_99_56 rfl ?_
              refine at_addR dx_99_57 (by constructor <;> omega) (fun r57 => ?_)
              refine at_shl dx_99_58 ?_
              refine at_goto dx_99_59 ?_
              refine at_or dx_99_61 ?_
              refine at_istore dx_99_62 ?_
              refine at_iincR (y := 1) dx_99_63 rfl rfl (by constructor <;> omega) (fun r63 => ?_)
              refine at_goto dx_99_64 ?_
              refine at_wk (ls := [vr 856, vi _, vi _, vi _, vi _]) ⟨Or.inl rfl, Or.inl rfl, Or.inl rfl, Or.inl rfl, Or.inl rfl, trivial⟩ ?_
              first
              | (exfalso; omega)
              | (refine ih _ (by omega) _ _ (inR_or _ _) r63 (by omega) rfl ?_
                 rw [← hv, rsT_step (c := c) h0.1 (by omega)]
                 refine congrArg (rsT (M 857) (M 858) t _) ?_
                 unfold rsk
                 first
                 | (rw [if_pos (by first | omega | (split at h23 <;> omega) | (split at h43 <;> omega))]; done)
                 | (rw [if_neg (by first | omega | (split at h23 <;> omega) | (split at h23 <;> split at h43 <;> omega) | (split at h43 <;> omega))]; done))
  refine at_iload dx_99_0 rfl ?_
  refine at_istore dx_99_1 ?_
  refine at_const (x := 0) dx_99_2 rfl ?_
  refine at_istore dx_99_3 ?_
  exact lp _ _ 0 ra (by decide) (by decide) rfl rfl

set_option maxRecDepth 100000 in
set_option maxHeartbeats 4000000 in
theorem x_follows {X : scr} {M : mem} {t a k : Int} (rt : inR t) (ra : inR a) (rk : inR k) (ht : 0 ≤ t ∧ t ≤ 5) : At X 0 100 0 [vr 856, vi t, vi a, vi k] [] M (qI (fun x M' => M' = M ∧ x = fo (M 857) (M 858) t a k)) := by
  have lp : ∀ (n : Nat) (c e : Int) (rc : inR c) (re : inR e) (h0 : 0 ≤ e ∧ e ≤ 3) (hn : (3 - e).toNat = n) (hv : foT (M 857) (M 858) t a k (3 - e).toNat c = foT (M 857) (M 858) t a k 3 0), At X 0 100 4 [vr 856, vi t, vi a, vi k, vi c, vi e] [] M (qI (fun x M' => M' = M ∧ x = fo (M 857) (M 858) t a k)) := by
    intro n
    induction n using Nat.strongRecOn with
    | ind n ih =>
    intro c e rc re h0 hn hv
    refine at_iload dx_100_4 rfl ?_
    refine at_const (x := 3) dx_100_5 rfl ?_
    refine at_cgeR dx_100_6 re (by decide) (fun c6 => ?_) (fun c6 => ?_)
    · skip
      refine at_aload dx_100_75 rfl ?_
      refine at_iload dx_100_76 rfl ?_
      refine at_iload dx_100_77 rfl ?_
      refine at_callVI dx_100_78 rfl lc_856 rfl (x_spreads rt rc ht) ?_
      rintro x78 M9 r78 ⟨e9, h78⟩; replace e9 := e9.symm; subst e9
      refine at_iretI dx_100_79 r78 ?_
      have e3 : e = 3 := by omega
      subst e3
      replace hv : c = _ := hv
      subst hv
      exact ⟨rfl, h78⟩
    · skip
      refine at_const (x := 3) dx_100_7 rfl ?_
      refine at_iload dx_100_8 rfl ?_
      refine at_mulR dx_100_9 (by constructor <;> omega) (fun r9 => ?_)
      refine at_iload dx_100_10 rfl ?_
      refine at_addR dx_100_11 (by constructor <;> omega) (fun r11 => ?_)
      refine at_istore dx_100_12 ?_
      refine at_aload dx_100_13 rfl ?_
      refine at_getR dx_100_14 lc_856 rfl lt_856_0 ?_
      refine at_iload dx_100_15 rfl ?_
      refine at_aldI dx_100_16 lc_857 ln_857 (by first | omega | (simp (disch := omega) only [um_eq, um_k, um_j]; omega)) (by first | omega | (simp (disch := omega) only [um_eq, um_k, um_j]; omega)) (fun r16 => ?_)
      refine at_iload dx_100_17 rfl ?_
      refine at_shr dx_100_18 ?_
      refine at_const (x := 1) dx_100_19 rfl ?_
      refine at_and dx_100_20 ?_
      refine at_const (x := 1) dx_100_21 rfl ?_
      refine at_cneR dx_100_22 (inR_and _ _) (by decide) (fun c22 => ?_) (fun c22 => ?_)
      · skip
        refine at_const (x := 0) dx_100_25 rfl ?_
        refine at_istore dx_100_26 ?_
        refine at_iload dx_100_27 rfl ?_
        refine at_const (x := 2) dx_100_28 rfl ?_
        refine at_iload dx_100_29 rfl ?_
        refine at_mulR dx_100_30 (by constructor <;> omega) (fun r30 => ?_)
        refine at_shr dx_100_31 ?_
        refine at_const (x := 1) dx_100_32 rfl ?_
        refine at_and dx_100_33 ?_
        refine at_const (x := 1) dx_100_34 rfl ?_
        refine at_ceqR dx_100_35 (inR_and _ _) (by decide) (fun c35 => ?_) (fun c35 => ?_)
        · skip
          refine at_const (x := 1) dx_100_53 rfl ?_
          refine at_goto dx_100_54 ?_
          refine at_istore dx_100_56 ?_
          refine at_iload dx_100_57 rfl ?_
          refine at_iload dx_100_58 rfl ?_
          refine at_zeqR dx_100_59 (by decide) (fun _ => ?_) (fun c => absurd c (by decide))
          refine at_const (x := 0) dx_100_70 rfl ?_
          refine at_or dx_100_71 ?_
          refine at_istore dx_100_72 ?_
          refine at_iincR (y := 1) dx_100_73 rfl rfl (by constructor <;> omega) (fun r73 => ?_)
          refine at_goto dx_100_74 ?_
          refine at_wk (ls := [vr 856, vi _, vi _, vi _, vi _, vi _]) ⟨Or.inl rfl, Or.inl rfl, Or.inl rfl, Or.inl rfl, Or.inl rfl, Or.inl rfl, trivial⟩ ?_
          first
          | (exfalso; omega)
          | (refine ih _ (by omega) _ _ (inR_or _ _) r73 (by omega) rfl ?_
             rw [← hv, foT_step (c := c) h0.1 (by omega)]
             refine congrArg (foT (M 857) (M 858) t a k _) ?_
             unfold gfo
             first
             | (rw [if_pos (by omega)]; done)
             | (rw [if_neg (by omega)]; done))
        · skip
          refine at_iload dx_100_36 rfl ?_
          refine at_const (x := 2) dx_100_37 rfl ?_
          refine at_iload dx_100_38 rfl ?_
          refine at_mulR dx_100_39 (by constructor <;> omega) (fun r39 => ?_)
          refine at_const (x := 1) dx_100_40 rfl ?_
          refine at_addR dx_100_41 (by constructor <;> omega) (fun r41 => ?_)
          refine at_shr dx_100_42 ?_
          refine at_const (x := 1) dx_100_43 rfl ?_
          refine at_and dx_100_44 ?_
          refine at_const (x := 1) dx_100_45 rfl ?_
          refine at_cneR dx_100_46 (inR_and _ _) (by decide) (fun c46 => ?_) (fun c46 => ?_)
          · skip
            refine at_const (x := 0) dx_100_55 rfl ?_
            refine at_istore dx_100_56 ?_
            refine at_iload dx_100_57 rfl ?_
            refine at_iload dx_100_58 rfl ?_
            refine at_zeqR dx_100_59 (by decide) (fun _ => ?_) (fun c => absurd c (by decide))
            refine at_const (x := 0) dx_100_70 rfl ?_
            refine at_or dx_100_71 ?_
            refine at_istore dx_100_72 ?_
            refine at_iincR (y := 1) dx_100_73 rfl rfl (by constructor <;> omega) (fun r73 => ?_)
            refine at_goto dx_100_74 ?_
            refine at_wk (ls := [vr 856, vi _, vi _, vi _, vi _, vi _]) ⟨Or.inl rfl, Or.inl rfl, Or.inl rfl, Or.inl rfl, Or.inl rfl, Or.inl rfl, trivial⟩ ?_
            first
            | (exfalso; omega)
            | (refine ih _ (by omega) _ _ (inR_or _ _) r73 (by omega) rfl ?_
               rw [← hv, foT_step (c := c) h0.1 (by omega)]
               refine congrArg (foT (M 857) (M 858) t a k _) ?_
               unfold gfo
               first
               | (rw [if_pos (by omega)]; done)
               | (rw [if_neg (by omega)]; done))
          · skip
            refine at_aload dx_100_47 rfl ?_
            refine at_getR dx_100_48 lc_856 rfl lt_856_1 ?_
            refine at_iload dx_100_49 rfl ?_
            refine at_aldI dx_100_50 lc_858 ln_858 (by first | omega | (simp (disch := omega) only [um_eq, um_k, um_j]; omega)) (by first | omega | (simp (disch := omega) only [um_eq, um_k, um_j]; omega)) (fun r50 => ?_)
            refine at_const (x := 1) dx_100_51 rfl ?_
            refine at_cleR dx_100_52 r50 (by decide) (fun c52 => ?_) (fun c52 => ?_)
            · skip
              refine at_const (x := 0) dx_100_55 rfl ?_
              refine at_istore dx_100_56 ?_
              refine at_iload dx_100_57 rfl ?_
              refine at_iload dx_100_58 rfl ?_
              refine at_zeqR dx_100_59 (by decide) (fun _ => ?_) (fun c => absurd c (by decide))
              refine at_const (x := 0) dx_100_70 rfl ?_
              refine at_or dx_100_71 ?_
              refine at_istore dx_100_72 ?_
              refine at_iincR (y := 1) dx_100_73 rfl rfl (by constructor <;> omega) (fun r73 => ?_)
              refine at_goto dx_100_74 ?_
              refine at_wk (ls := [vr 856, vi _, vi _, vi _, vi _, vi _]) ⟨Or.inl rfl, Or.inl rfl, Or.inl rfl, Or.inl rfl, Or.inl rfl, Or.inl rfl, trivial⟩ ?_
              first
              | (exfalso; omega)
              | (refine ih _ (by omega) _ _ (inR_or _ _) r73 (by omega) rfl ?_
                 rw [← hv, foT_step (c := c) h0.1 (by omega)]
                 refine congrArg (foT (M 857) (M 858) t a k _) ?_
                 unfold gfo
                 first
                 | (rw [if_pos (by omega)]; done)
                 | (rw [if_neg (by omega)]; done))
            · skip
              refine at_const (x := 1) dx_100_53 rfl ?_
              refine at_goto dx_100_54 ?_
              refine at_istore dx_100_56 ?_
              refine at_iload dx_100_57 rfl ?_
              refine at_iload dx_100_58 rfl ?_
              refine at_zeqR dx_100_59 (by decide) (fun _ => ?_) (fun c => absurd c (by decide))
              refine at_const (x := 0) dx_100_70 rfl ?_
              refine at_or dx_100_71 ?_
              refine at_istore dx_100_72 ?_
              refine at_iincR (y := 1) dx_100_73 rfl rfl (by constructor <;> omega) (fun r73 => ?_)
              refine at_goto dx_100_74 ?_
              refine at_wk (ls := [vr 856, vi _, vi _, vi _, vi _, vi _]) ⟨Or.inl rfl, Or.inl rfl, Or.inl rfl, Or.inl rfl, Or.inl rfl, Or.inl rfl, trivial⟩ ?_
              first
              | (exfalso; omega)
              | (refine ih _ (by omega) _ _ (inR_or _ _) r73 (by omega) rfl ?_
                 rw [← hv, foT_step (c := c) h0.1 (by omega)]
                 refine congrArg (foT (M 857) (M 858) t a k _) ?_
                 unfold gfo
                 first
                 | (rw [if_pos (by omega)]; done)
                 | (rw [if_neg (by omega)]; done))
      · skip
        refine at_const (x := 1) dx_100_23 rfl ?_
        refine at_goto dx_100_24 ?_
        refine at_istore dx_100_26 ?_
        refine at_iload dx_100_27 rfl ?_
        refine at_const (x := 2) dx_100_28 rfl ?_
        refine at_iload dx_100_29 rfl ?_
        refine at_mulR dx_100_30 (by constructor <;> omega) (fun r30 => ?_)
        refine at_shr dx_100_31 ?_
        refine at_const (x := 1) dx_100_32 rfl ?_
        refine at_and dx_100_33 ?_
        refine at_const (x := 1) dx_100_34 rfl ?_
        refine at_ceqR dx_100_35 (inR_and _ _) (by decide) (fun c35 => ?_) (fun c35 => ?_)
        · skip
          refine at_const (x := 1) dx_100_53 rfl ?_
          refine at_goto dx_100_54 ?_
          refine at_istore dx_100_56 ?_
          refine at_iload dx_100_57 rfl ?_
          refine at_iload dx_100_58 rfl ?_
          refine at_zeqR dx_100_59 (by decide) (fun c => absurd c (by decide)) (fun _ => ?_)
          refine at_iload dx_100_60 rfl ?_
          refine at_zeqR dx_100_61 (by decide) (fun c => absurd c (by decide)) (fun _ => ?_)
          refine at_const (x := 1) dx_100_62 rfl ?_
          refine at_const (x := 2) dx_100_63 rfl ?_
          refine at_iload dx_100_64 rfl ?_
          refine at_mulR dx_100_65 (by constructor <;> omega) (fun r65 => ?_)
          refine at_const (x := 1) dx_100_66 rfl ?_
          refine at_addR dx_100_67 (by constructor <;> omega) (fun r67 => ?_)
          refine at_shl dx_100_68 ?_
          refine at_goto dx_100_69 ?_
          refine at_or dx_100_71 ?_
          refine at_istore dx_100_72 ?_
          refine at_iincR (y := 1) dx_100_73 rfl rfl (by constructor <;> omega) (fun r73 => ?_)
          refine at_goto dx_100_74 ?_
          refine at_wk (ls := [vr 856, vi _, vi _, vi _, vi _, vi _]) ⟨Or.inl rfl, Or.inl rfl, Or.inl rfl, Or.inl rfl, Or.inl rfl, Or.inl rfl, trivial⟩ ?_
          first
          | (exfalso; omega)
          | (refine ih _ (by omega) _ _ (inR_or _ _) r73 (by omega) rfl ?_
             rw [← hv, foT_step (c := c) h0.1 (by omega)]
             refine congrArg (foT (M 857) (M 858) t a k _) ?_
             unfold gfo
             first
             | (rw [if_pos (by omega)]; done)
             | (rw [if_neg (by omega)]; done))
        · skip
          refine at_iload dx_100_36 rfl ?_
          refine at_const (x := 2) dx_100_37 rfl ?_
          refine at_iload dx_100_38 rfl ?_
          refine at_mulR dx_100_39 (by constructor <;> omega) (fun r39 => ?_)
          refine at_const (x := 1) dx_100_40 rfl ?_
          refine at_addR dx_100_41 (by constructor <;> omega) (fun r41 => ?_)
          refine at_shr dx_100_42 ?_
          refine at_const (x := 1) dx_100_43 rfl ?_
          refine at_and dx_100_44 ?_
          refine at_const (x := 1) dx_100_45 rfl ?_
          refine at_cneR dx_100_46 (inR_and _ _) (by decide) (fun c46 => ?_) (fun c46 => ?_)
          · skip
            refine at_const (x := 0) dx_100_55 rfl ?_
            refine at_istore dx_100_56 ?_
            refine at_iload dx_100_57 rfl ?_
            refine at_iload dx_100_58 rfl ?_
            refine at_zeqR dx_100_59 (by decide) (fun c => absurd c (by decide)) (fun _ => ?_)
            refine at_iload dx_100_60 rfl ?_
            refine at_zeqR dx_100_61 (by decide) (fun _ => ?_) (fun c => absurd c (by decide))
            refine at_const (x := 0) dx_100_70 rfl ?_
            refine at_or dx_100_71 ?_
            refine at_istore dx_100_72 ?_
            refine at_iincR (y := 1) dx_100_73 rfl rfl (by constructor <;> omega) (fun r73 => ?_)
            refine at_goto dx_100_74 ?_
            refine at_wk (ls := [vr 856, vi _, vi _, vi _, vi _, vi _]) ⟨Or.inl rfl, Or.inl rfl, Or.inl rfl, Or.inl rfl, Or.inl rfl, Or.inl rfl, trivial⟩ ?_
            first
            | (exfalso; omega)
            | (refine ih _ (by omega) _ _ (inR_or _ _) r73 (by omega) rfl ?_
               rw [← hv, foT_step (c := c) h0.1 (by omega)]
               refine congrArg (foT (M 857) (M 858) t a k _) ?_
               unfold gfo
               first
               | (rw [if_pos (by omega)]; done)
               | (rw [if_neg (by omega)]; done))
          · skip
            refine at_aload dx_100_47 rfl ?_
            refine at_getR dx_100_48 lc_856 rfl lt_856_1 ?_
            refine at_iload dx_100_49 rfl ?_
            refine at_aldI dx_100_50 lc_858 ln_858 (by first | omega | (simp (disch := omega) only [um_eq, um_k, um_j]; omega)) (by first | omega | (simp (disch := omega) only [um_eq, um_k, um_j]; omega)) (fun r50 => ?_)
            refine at_const (x := 1) dx_100_51 rfl ?_
            refine at_cleR dx_100_52 r50 (by decide) (fun c52 => ?_) (fun c52 => ?_)
            · skip
              refine at_const (x := 0) dx_100_55 rfl ?_
              refine at_istore dx_100_56 ?_
              refine at_iload dx_100_57 rfl ?_
              refine at_iload dx_100_58 rfl ?_
              refine at_zeqR dx_100_59 (by decide) (fun c => absurd c (by decide)) (fun _ => ?_)
              refine at_iload dx_100_60 rfl ?_
              refine at_zeqR dx_100_61 (by decide) (fun _ => ?_) (fun c => absurd c (by decide))
              refine at_const (x := 0) dx_100_70 rfl ?_
              refine at_or dx_100_71 ?_
              refine at_istore dx_100_72 ?_
              refine at_iincR (y := 1) dx_100_73 rfl rfl (by constructor <;> omega) (fun r73 => ?_)
              refine at_goto dx_100_74 ?_
              refine at_wk (ls := [vr 856, vi _, vi _, vi _, vi _, vi _]) ⟨Or.inl rfl, Or.inl rfl, Or.inl rfl, Or.inl rfl, Or.inl rfl, Or.inl rfl, trivial⟩ ?_
              first
              | (exfalso; omega)
              | (refine ih _ (by omega) _ _ (inR_or _ _) r73 (by omega) rfl ?_
                 rw [← hv, foT_step (c := c) h0.1 (by omega)]
                 refine congrArg (foT (M 857) (M 858) t a k _) ?_
                 unfold gfo
                 first
                 | (rw [if_pos (by omega)]; done)
                 | (rw [if_neg (by omega)]; done))
            · skip
              refine at_const (x := 1) dx_100_53 rfl ?_
              refine at_goto dx_100_54 ?_
              refine at_istore dx_100_56 ?_
              refine at_iload dx_100_57 rfl ?_
              refine at_iload dx_100_58 rfl ?_
              refine at_zeqR dx_100_59 (by decide) (fun c => absurd c (by decide)) (fun _ => ?_)
              refine at_iload dx_100_60 rfl ?_
              refine at_zeqR dx_100_61 (by decide) (fun c => absurd c (by decide)) (fun _ => ?_)
              refine at_const (x := 1) dx_100_62 rfl ?_
              refine at_const (x := 2) dx_100_63 rfl ?_
              refine at_iload dx_100_64 rfl ?_
              refine at_mulR dx_100_65 (by constructor <;> omega) (fun r65 => ?_)
              refine at_const (x := 1) dx_100_66 rfl ?_
              refine at_addR dx_100_67 (by constructor <;> omega) (fun r67 => ?_)
              refine at_shl dx_100_68 ?_
              refine at_goto dx_100_69 ?_
              refine at_or dx_100_71 ?_
              refine at_istore dx_100_72 ?_
              refine at_iincR (y := 1) dx_100_73 rfl rfl (by constructor <;> omega) (fun r73 => ?_)
              refine at_goto dx_100_74 ?_
              refine at_wk (ls := [vr 856, vi _, vi _, vi _, vi _, vi _]) ⟨Or.inl rfl, Or.inl rfl, Or.inl rfl, Or.inl rfl, Or.inl rfl, Or.inl rfl, trivial⟩ ?_
              first
              | (exfalso; omega)
              | (refine ih _ (by omega) _ _ (inR_or _ _) r73 (by omega) rfl ?_
                 rw [← hv, foT_step (c := c) h0.1 (by omega)]
                 refine congrArg (foT (M 857) (M 858) t a k _) ?_
                 unfold gfo
                 first
                 | (rw [if_pos (by omega)]; done)
                 | (rw [if_neg (by omega)]; done))
  refine at_const (x := 0) dx_100_0 rfl ?_
  refine at_istore dx_100_1 ?_
  refine at_const (x := 0) dx_100_2 rfl ?_
  refine at_istore dx_100_3 ?_
  exact lp _ _ 0 (by decide) (by decide) (by decide) rfl rfl

set_option maxRecDepth 100000 in
set_option maxHeartbeats 4000000 in
theorem x_isValid {X : scr} {M : mem} (hl : 0 ≤ M 856 23) (hG : GR (M 857) (M 858)) : At X 0 101 0 [vr 856] [] M (qI (fun x M' => frE (fun q _ => q = 881 ∨ q = 882) M M' ∧ (x = 0 ∨ x = 1) ∧ (x = 1 → M 856 23 ≤ 60 ∧ Bal (wk M)) ∧ (x = 1 ↔ M 856 23 ≤ 60 ∧ acc (M 857) (M 858) (wk M)))) := by
  have lp : ∀ (n : Nat) (d k : Int) (M1 : mem) (rd : inR d) (rk : inR k) (hk : 0 ≤ k ∧ k ≤ M 856 23) (hl6 : M 856 23 ≤ 60) (hd : 0 ≤ d ∧ d ≤ k) (hn : (M 856 23 - k).toNat = n) (F : frE (fun q _ => q = 881 ∨ q = 882) M M1) (ho : (∀ j : Int, 0 ≤ j → j ≤ d → 0 ≤ M1 881 j ∧ M1 881 j ≤ 5)) (w1 : dsm (wk M) k.toNat = d) (w2 : ∀ i, i ≤ k.toNat → 0 ≤ dsm (wk M) i) (hv : LV (M 857) (M 858) (wk M) k.toNat M1 d), At X 0 101 23 [vr 856, vi d, vi k] [] M1 (qI (fun x M' => frE (fun q _ => q = 881 ∨ q = 882) M M' ∧ (x = 0 ∨ x = 1) ∧ (x = 1 → M 856 23 ≤ 60 ∧ Bal (wk M)) ∧ (x = 1 ↔ M 856 23 ≤ 60 ∧ acc (M 857) (M 858) (wk M)))) := by
    intro n
    induction n using Nat.strongRecOn with
    | ind n ih =>
    intro d k M1 rd rk hk hl6 hd hn F ho w1 w2 hv
    have el : M1 856 23 = M 856 23 := F 856 23 (by (try dsimp only [stE]); first | done | omega)
    have ew : M1 877 k = M 877 k := F 877 k (by (try dsimp only [stE]); first | done | omega)
    have hod := ho d hd.1 (Int.le_refl d)
    have g7 : M1 857 = M 857 := funext (fun j => F 857 j (by (try dsimp only [stE]); first | done | omega))
    have g8 : M1 858 = M 858 := funext (fun j => F 858 j (by (try dsimp only [stE]); first | done | omega))
    have hkl : k < M 856 23 → k.toNat < (wk M).length := fun hh => by rw [wk_len]; omega
    have hgd : k < M 856 23 → (wk M).getD k.toNat 0 = M 877 k := fun hh => by rw [wk_at (by omega), Int.toNat_of_nonneg hk.1]
    have k1 : (k + 1).toNat = k.toNat + 1 := by omega
    have hz6 := and1 (ii_shr (M1 882 d) 6)
    have hs : k < M 856 23 → dsm (wk M) (k + 1).toNat = d + dch (M 877 k) := fun hh => by
      rw [show (k + 1).toNat = k.toNat + 1 by omega]
      show dsm (wk M) k.toNat + dch ((wk M).getD k.toNat 0) = _
      rw [wk_at (by omega), w1, Int.toNat_of_nonneg hk.1]
    have hw : ∀ z, dsm (wk M) (k + 1).toNat = z → 0 ≤ z → ∀ i, i ≤ (k + 1).toNat → 0 ≤ dsm (wk M) i := fun z hz h0 i hi => by
      by_cases e : i = (k + 1).toNat
      · rw [e, hz]; exact h0
      · exact w2 i (by omega)
    refine at_iload dx_101_23 rfl ?_
    refine at_aload dx_101_24 rfl ?_
    refine at_getI 23 dx_101_25 lc_856 rfl rfl (fun r25 => ?_)
    refine at_cgeR dx_101_26 rk r25 (fun c26 => ?_) (fun c26 => ?_)
    · skip
      refine at_iload dx_101_89 rfl ?_
      refine at_zneR dx_101_90 rd (fun c90 => ?_) (fun c90 => ?_)
      · skip
        refine at_const (x := 0) dx_101_103 rfl ?_
        refine at_zretI dx_101_104 (Or.inl rfl) ?_
        have hke : k = M 856 23 := by omega
        subst hke
        have hv2 : LV (M 857) (M 858) (wk M) (wk M).length M1 d := by rw [wk_len]; exact hv
        have hae := LV_end hv2 hd.1
        first
        | exact ⟨F, Or.inl rfl, fun e => absurd e (by decide), fun e => absurd e (by decide), fun e => by have := hae.mp e.2; omega⟩
        | (refine ⟨F, Or.inr rfl, fun _ => ⟨hl6, ?_⟩, fun _ => ⟨hl6, hae.mpr (by omega)⟩, fun _ => rfl⟩
           rw [← wk_len] at w1 w2
           exact ⟨w2, by rw [w1]; omega⟩)
      · skip
        refine at_aload dx_101_91 rfl ?_
        refine at_getR dx_101_92 lc_856 rfl lt_856_30 ?_
        refine at_const (x := 0) dx_101_93 rfl ?_
        refine at_aldI dx_101_94 lc_882 ln_882 (by decide) (by decide) (fun r94 => ?_)
        refine at_const (x := 6) dx_101_95 rfl ?_
        refine at_shr dx_101_96 ?_
        refine at_const (x := 1) dx_101_97 rfl ?_
        refine at_and dx_101_98 ?_
        refine at_const (x := 1) dx_101_99 rfl ?_
        refine at_cneR dx_101_100 (inR_and _ _) (by decide) (fun c100 => ?_) (fun c100 => ?_)
        · skip
          refine at_const (x := 0) dx_101_103 rfl ?_
          refine at_zretI dx_101_104 (Or.inl rfl) ?_
          have hke : k = M 856 23 := by omega
          subst hke
          have hv2 : LV (M 857) (M 858) (wk M) (wk M).length M1 d := by rw [wk_len]; exact hv
          have hae := LV_end hv2 hd.1
          first
          | exact ⟨F, Or.inl rfl, fun e => absurd e (by decide), fun e => absurd e (by decide), fun e => by have := hae.mp e.2; omega⟩
          | (refine ⟨F, Or.inr rfl, fun _ => ⟨hl6, ?_⟩, fun _ => ⟨hl6, hae.mpr (by omega)⟩, fun _ => rfl⟩
             rw [← wk_len] at w1 w2
             exact ⟨w2, by rw [w1]; omega⟩)
        · skip
          refine at_const (x := 1) dx_101_101 rfl ?_
          refine at_goto dx_101_102 ?_
          refine at_zretI dx_101_104 (Or.inr rfl) ?_
          have hke : k = M 856 23 := by omega
          subst hke
          have hv2 : LV (M 857) (M 858) (wk M) (wk M).length M1 d := by rw [wk_len]; exact hv
          have hae := LV_end hv2 hd.1
          first
          | exact ⟨F, Or.inl rfl, fun e => absurd e (by decide), fun e => absurd e (by decide), fun e => by have := hae.mp e.2; omega⟩
          | (refine ⟨F, Or.inr rfl, fun _ => ⟨hl6, ?_⟩, fun _ => ⟨hl6, hae.mpr (by omega)⟩, fun _ => rfl⟩
             rw [← wk_len] at w1 w2
             exact ⟨w2, by rw [w1]; omega⟩)
    · skip
      refine at_aload dx_101_27 rfl ?_
      refine at_getR dx_101_28 lc_856 rfl lt_856_22 ?_
      refine at_iload dx_101_29 rfl ?_
      refine at_aldI dx_101_30 lc_877 ln_877 (by first | omega | (simp (disch := omega) only [um_eq, um_k, um_j]; omega)) (by first | omega | (simp (disch := omega) only [um_eq, um_k, um_j]; omega)) (fun r30 => ?_)
      refine at_istore dx_101_31 ?_
      refine at_iload dx_101_32 rfl ?_
      refine at_zneR dx_101_33 r30 (fun c33 => ?_) (fun c33 => ?_)
      · skip
        refine at_iload dx_101_49 rfl ?_
        refine at_callSI dx_101_50 rfl rfl (m_opens r30) ?_
        rintro x50 M9 r50 ⟨e9, h50⟩; replace e9 := e9.symm; subst e9
        refine at_istore dx_101_51 ?_
        refine at_aload dx_101_52 rfl ?_
        refine at_getR dx_101_53 lc_856 rfl lt_856_30 ?_
        refine at_iload dx_101_54 rfl ?_
        refine at_aload dx_101_55 rfl ?_
        refine at_aload dx_101_56 rfl ?_
        refine at_getR dx_101_57 lc_856 rfl lt_856_29 ?_
        refine at_iload dx_101_58 rfl ?_
        refine at_aldI dx_101_59 lc_881 ln_881 (by first | omega | (simp (disch := omega) only [um_eq, um_k, um_j]; omega)) (by first | omega | (simp (disch := omega) only [um_eq, um_k, um_j]; omega)) (fun r59 => ?_)
        refine at_aload dx_101_60 rfl ?_
        refine at_getR dx_101_61 lc_856 rfl lt_856_30 ?_
        refine at_iload dx_101_62 rfl ?_
        refine at_aldI dx_101_63 lc_882 ln_882 (by first | omega | (simp (disch := omega) only [um_eq, um_k, um_j]; omega)) (by first | omega | (simp (disch := omega) only [um_eq, um_k, um_j]; omega)) (fun r63 => ?_)
        refine at_iload dx_101_64 rfl ?_
        refine at_zeqR dx_101_65 r50 (fun c65 => ?_) (fun c65 => ?_)
        · skip
          refine at_const (x := 6) dx_101_68 rfl ?_
          refine at_callVI dx_101_69 rfl lc_856 rfl (x_follows r59 r63 (by decide) hod) ?_
          rintro x69 M9 r69 ⟨e9, h69⟩; replace e9 := e9.symm; subst e9
          refine at_astI dx_101_70 lc_882 ln_882 (by first | omega | (simp (disch := omega) only [um_eq, um_k, um_j]; omega)) (by first | omega | (simp (disch := omega) only [um_eq, um_k, um_j]; omega)) r69 ?_
          refine at_iload dx_101_71 rfl ?_
          refine at_zeqR dx_101_72 r50 (fun c72 => ?_) (fun c72 => ?_)
          · skip
            refine at_iincR (y := 1) dx_101_87 rfl rfl (by constructor <;> omega) (fun r87 => ?_)
            refine at_goto dx_101_88 ?_
            refine at_wk (ls := [vr 856, vi _, vi _]) ⟨Or.inl rfl, Or.inl rfl, Or.inl rfl, trivial⟩ ?_
            first
            | (exfalso; omega)
            | (have hz : dch (M 877 k) = -1 := by unfold dch; rw [if_pos (by omega)]
               have hq := hs (by omega)
               rw [hz] at hq
               have hl := LV_close hv hd.1 (hkl (by omega)) (by rw [hgd (by omega)]; omega) (by omega) (by first | omega | (split at * <;> omega))
               exact ih _ (by omega) _ _ _ r47 r87 (by omega) hl6 (by omega) rfl F (fun j h1 h2 => ho j h1 (by omega)) hq (hw _ hq (by omega)) (by rw [k1]; exact hl))
            | (have hn5 : ¬ (1 ≤ M 877 k ∧ M 877 k ≤ 5) := fun hh => by rw [if_pos (by omega)] at h50; omega
               have hz : dch (M 877 k) = 0 := by unfold dch; rw [if_neg (by omega), if_neg hn5]
               have hq := hs (by omega)
               rw [hz, Int.add_zero] at hq
               rw [g7, g8] at h69
               have hl := LV_char hG hv hd.1 (hkl (by omega)) (hgd (by omega)) (by omega) hn5 h69
               exact ih _ (by omega) _ _ _ rd r87 (by omega) hl6 (by omega) rfl (fe_ums F (by (try dsimp only [stE]); first | done | omega)) (fun j h1 h2 => by rw [um_k (by decide)]; exact ho j h1 h2) hq (hw _ hq (by omega)) (by rw [k1]; exact hl))
            | (have hy5 : 1 ≤ M 877 k ∧ M 877 k ≤ 5 := by split at h50 <;> omega
               have hz : dch (M 877 k) = 1 := by unfold dch; rw [if_neg (by omega), if_pos hy5]
               have hq := hs (by omega)
               rw [hz] at hq
               rw [g7, g8] at h69
               have e7 : ∀ v w : Int, (um (um M1 882 d v) 881 (d + 1) w) 857 = M 857 := fun v w => funext (fun j => by rw [um_k (by decide), um_k (by decide), g7])
               have e8 : ∀ v w : Int, (um (um M1 882 d v) 881 (d + 1) w) 858 = M 858 := fun v w => funext (fun j => by rw [um_k (by decide), um_k (by decide), g8])
               rw [e7, e8] at h85
               rw [ew] at h69 h85
               have hl := LV_open hG hv hd.1 (hkl (by omega)) (hgd (by omega)) hy5 h69 h85
               rw [← ew] at hl
               refine ih _ (by omega) _ _ _ r73 r87 (by omega) hl6 (by omega) rfl (fe_ums (fe_ums (fe_ums F (by (try dsimp only [stE]); first | done | omega)) (by (try dsimp only [stE]); first | done | omega)) (by (try dsimp only [stE]); first | done | omega)) (fun j h1 h2 => ?_) hq (hw _ hq (by omega)) (by rw [k1]; exact hl)
               rw [um_k (by decide)]
               by_cases ej : j = d + 1
               · subst ej; rw [um_eq]; omega
               · rw [um_j ej, um_k (by decide)]; exact ho j h1 (by omega))
          · skip
            refine at_iincR (y := 1) dx_101_73 rfl rfl (by constructor <;> omega) (fun r73 => ?_)
            refine at_aload dx_101_74 rfl ?_
            refine at_getR dx_101_75 lc_856 rfl lt_856_29 ?_
            refine at_iload dx_101_76 rfl ?_
            refine at_iload dx_101_77 rfl ?_
            refine at_astI dx_101_78 lc_881 ln_881 (by first | omega | (simp (disch := omega) only [um_eq, um_k, um_j]; omega)) (by first | omega | (simp (disch := omega) only [um_eq, um_k, um_j]; omega)) r30 ?_
            refine at_aload dx_101_79 rfl ?_
            refine at_getR dx_101_80 lc_856 rfl lt_856_30 ?_
            refine at_iload dx_101_81 rfl ?_
            refine at_aload dx_101_82 rfl ?_
            refine at_iload dx_101_83 rfl ?_
            refine at_const (x := 1) dx_101_84 rfl ?_
            refine at_callVI dx_101_85 rfl lc_856 rfl (x_spreads r30 (by decide) (by split at h50 <;> omega)) ?_
            rintro x85 M9 r85 ⟨e9, h85⟩; replace e9 := e9.symm; subst e9
            refine at_astI dx_101_86 lc_882 ln_882 (by first | omega | (simp (disch := omega) only [um_eq, um_k, um_j]; omega)) (by first | omega | (simp (disch := omega) only [um_eq, um_k, um_j]; omega)) r85 ?_
            refine at_iincR (y := 1) dx_101_87 rfl rfl (by constructor <;> omega) (fun r87 => ?_)
            refine at_goto dx_101_88 ?_
            refine at_wk (ls := [vr 856, vi _, vi _]) ⟨Or.inl rfl, Or.inl rfl, Or.inl rfl, trivial⟩ ?_
            first
            | (exfalso; omega)
            | (have hz : dch (M 877 k) = -1 := by unfold dch; rw [if_pos (by omega)]
               have hq := hs (by omega)
               rw [hz] at hq
               have hl := LV_close hv hd.1 (hkl (by omega)) (by rw [hgd (by omega)]; omega) (by omega) (by first | omega | (split at * <;> omega))
               exact ih _ (by omega) _ _ _ r47 r87 (by omega) hl6 (by omega) rfl F (fun j h1 h2 => ho j h1 (by omega)) hq (hw _ hq (by omega)) (by rw [k1]; exact hl))
            | (have hn5 : ¬ (1 ≤ M 877 k ∧ M 877 k ≤ 5) := fun hh => by rw [if_pos (by omega)] at h50; omega
               have hz : dch (M 877 k) = 0 := by unfold dch; rw [if_neg (by omega), if_neg hn5]
               have hq := hs (by omega)
               rw [hz, Int.add_zero] at hq
               rw [g7, g8] at h69
               have hl := LV_char hG hv hd.1 (hkl (by omega)) (hgd (by omega)) (by omega) hn5 h69
               exact ih _ (by omega) _ _ _ rd r87 (by omega) hl6 (by omega) rfl (fe_ums F (by (try dsimp only [stE]); first | done | omega)) (fun j h1 h2 => by rw [um_k (by decide)]; exact ho j h1 h2) hq (hw _ hq (by omega)) (by rw [k1]; exact hl))
            | (have hy5 : 1 ≤ M 877 k ∧ M 877 k ≤ 5 := by split at h50 <;> omega
               have hz : dch (M 877 k) = 1 := by unfold dch; rw [if_neg (by omega), if_pos hy5]
               have hq := hs (by omega)
               rw [hz] at hq
               rw [g7, g8] at h69
               have e7 : ∀ v w : Int, (um (um M1 882 d v) 881 (d + 1) w) 857 = M 857 := fun v w => funext (fun j => by rw [um_k (by decide), um_k (by decide), g7])
               have e8 : ∀ v w : Int, (um (um M1 882 d v) 881 (d + 1) w) 858 = M 858 := fun v w => funext (fun j => by rw [um_k (by decide), um_k (by decide), g8])
               rw [e7, e8] at h85
               rw [ew] at h69 h85
               have hl := LV_open hG hv hd.1 (hkl (by omega)) (hgd (by omega)) hy5 h69 h85
               rw [← ew] at hl
               refine ih _ (by omega) _ _ _ r73 r87 (by omega) hl6 (by omega) rfl (fe_ums (fe_ums (fe_ums F (by (try dsimp only [stE]); first | done | omega)) (by (try dsimp only [stE]); first | done | omega)) (by (try dsimp only [stE]); first | done | omega)) (fun j h1 h2 => ?_) hq (hw _ hq (by omega)) (by rw [k1]; exact hl)
               rw [um_k (by decide)]
               by_cases ej : j = d + 1
               · subst ej; rw [um_eq]; omega
               · rw [um_j ej, um_k (by decide)]; exact ho j h1 (by omega))
        · skip
          refine at_iload dx_101_66 rfl ?_
          refine at_goto dx_101_67 ?_
          refine at_callVI dx_101_69 rfl lc_856 rfl (x_follows r59 r63 r30 hod) ?_
          rintro x69 M9 r69 ⟨e9, h69⟩; replace e9 := e9.symm; subst e9
          refine at_astI dx_101_70 lc_882 ln_882 (by first | omega | (simp (disch := omega) only [um_eq, um_k, um_j]; omega)) (by first | omega | (simp (disch := omega) only [um_eq, um_k, um_j]; omega)) r69 ?_
          refine at_iload dx_101_71 rfl ?_
          refine at_zeqR dx_101_72 r50 (fun c72 => ?_) (fun c72 => ?_)
          · skip
            refine at_iincR (y := 1) dx_101_87 rfl rfl (by constructor <;> omega) (fun r87 => ?_)
            refine at_goto dx_101_88 ?_
            refine at_wk (ls := [vr 856, vi _, vi _]) ⟨Or.inl rfl, Or.inl rfl, Or.inl rfl, trivial⟩ ?_
            first
            | (exfalso; omega)
            | (have hz : dch (M 877 k) = -1 := by unfold dch; rw [if_pos (by omega)]
               have hq := hs (by omega)
               rw [hz] at hq
               have hl := LV_close hv hd.1 (hkl (by omega)) (by rw [hgd (by omega)]; omega) (by omega) (by first | omega | (split at * <;> omega))
               exact ih _ (by omega) _ _ _ r47 r87 (by omega) hl6 (by omega) rfl F (fun j h1 h2 => ho j h1 (by omega)) hq (hw _ hq (by omega)) (by rw [k1]; exact hl))
            | (have hn5 : ¬ (1 ≤ M 877 k ∧ M 877 k ≤ 5) := fun hh => by rw [if_pos (by omega)] at h50; omega
               have hz : dch (M 877 k) = 0 := by unfold dch; rw [if_neg (by omega), if_neg hn5]
               have hq := hs (by omega)
               rw [hz, Int.add_zero] at hq
               rw [g7, g8] at h69
               have hl := LV_char hG hv hd.1 (hkl (by omega)) (hgd (by omega)) (by omega) hn5 h69
               exact ih _ (by omega) _ _ _ rd r87 (by omega) hl6 (by omega) rfl (fe_ums F (by (try dsimp only [stE]); first | done | omega)) (fun j h1 h2 => by rw [um_k (by decide)]; exact ho j h1 h2) hq (hw _ hq (by omega)) (by rw [k1]; exact hl))
            | (have hy5 : 1 ≤ M 877 k ∧ M 877 k ≤ 5 := by split at h50 <;> omega
               have hz : dch (M 877 k) = 1 := by unfold dch; rw [if_neg (by omega), if_pos hy5]
               have hq := hs (by omega)
               rw [hz] at hq
               rw [g7, g8] at h69
               have e7 : ∀ v w : Int, (um (um M1 882 d v) 881 (d + 1) w) 857 = M 857 := fun v w => funext (fun j => by rw [um_k (by decide), um_k (by decide), g7])
               have e8 : ∀ v w : Int, (um (um M1 882 d v) 881 (d + 1) w) 858 = M 858 := fun v w => funext (fun j => by rw [um_k (by decide), um_k (by decide), g8])
               rw [e7, e8] at h85
               rw [ew] at h69 h85
               have hl := LV_open hG hv hd.1 (hkl (by omega)) (hgd (by omega)) hy5 h69 h85
               rw [← ew] at hl
               refine ih _ (by omega) _ _ _ r73 r87 (by omega) hl6 (by omega) rfl (fe_ums (fe_ums (fe_ums F (by (try dsimp only [stE]); first | done | omega)) (by (try dsimp only [stE]); first | done | omega)) (by (try dsimp only [stE]); first | done | omega)) (fun j h1 h2 => ?_) hq (hw _ hq (by omega)) (by rw [k1]; exact hl)
               rw [um_k (by decide)]
               by_cases ej : j = d + 1
               · subst ej; rw [um_eq]; omega
               · rw [um_j ej, um_k (by decide)]; exact ho j h1 (by omega))
          · skip
            refine at_iincR (y := 1) dx_101_73 rfl rfl (by constructor <;> omega) (fun r73 => ?_)
            refine at_aload dx_101_74 rfl ?_
            refine at_getR dx_101_75 lc_856 rfl lt_856_29 ?_
            refine at_iload dx_101_76 rfl ?_
            refine at_iload dx_101_77 rfl ?_
            refine at_astI dx_101_78 lc_881 ln_881 (by first | omega | (simp (disch := omega) only [um_eq, um_k, um_j]; omega)) (by first | omega | (simp (disch := omega) only [um_eq, um_k, um_j]; omega)) r30 ?_
            refine at_aload dx_101_79 rfl ?_
            refine at_getR dx_101_80 lc_856 rfl lt_856_30 ?_
            refine at_iload dx_101_81 rfl ?_
            refine at_aload dx_101_82 rfl ?_
            refine at_iload dx_101_83 rfl ?_
            refine at_const (x := 1) dx_101_84 rfl ?_
            refine at_callVI dx_101_85 rfl lc_856 rfl (x_spreads r30 (by decide) (by split at h50 <;> omega)) ?_
            rintro x85 M9 r85 ⟨e9, h85⟩; replace e9 := e9.symm; subst e9
            refine at_astI dx_101_86 lc_882 ln_882 (by first | omega | (simp (disch := omega) only [um_eq, um_k, um_j]; omega)) (by first | omega | (simp (disch := omega) only [um_eq, um_k, um_j]; omega)) r85 ?_
            refine at_iincR (y := 1) dx_101_87 rfl rfl (by constructor <;> omega) (fun r87 => ?_)
            refine at_goto dx_101_88 ?_
            refine at_wk (ls := [vr 856, vi _, vi _]) ⟨Or.inl rfl, Or.inl rfl, Or.inl rfl, trivial⟩ ?_
            first
            | (exfalso; omega)
            | (have hz : dch (M 877 k) = -1 := by unfold dch; rw [if_pos (by omega)]
               have hq := hs (by omega)
               rw [hz] at hq
               have hl := LV_close hv hd.1 (hkl (by omega)) (by rw [hgd (by omega)]; omega) (by omega) (by first | omega | (split at * <;> omega))
               exact ih _ (by omega) _ _ _ r47 r87 (by omega) hl6 (by omega) rfl F (fun j h1 h2 => ho j h1 (by omega)) hq (hw _ hq (by omega)) (by rw [k1]; exact hl))
            | (have hn5 : ¬ (1 ≤ M 877 k ∧ M 877 k ≤ 5) := fun hh => by rw [if_pos (by omega)] at h50; omega
               have hz : dch (M 877 k) = 0 := by unfold dch; rw [if_neg (by omega), if_neg hn5]
               have hq := hs (by omega)
               rw [hz, Int.add_zero] at hq
               rw [g7, g8] at h69
               have hl := LV_char hG hv hd.1 (hkl (by omega)) (hgd (by omega)) (by omega) hn5 h69
               exact ih _ (by omega) _ _ _ rd r87 (by omega) hl6 (by omega) rfl (fe_ums F (by (try dsimp only [stE]); first | done | omega)) (fun j h1 h2 => by rw [um_k (by decide)]; exact ho j h1 h2) hq (hw _ hq (by omega)) (by rw [k1]; exact hl))
            | (have hy5 : 1 ≤ M 877 k ∧ M 877 k ≤ 5 := by split at h50 <;> omega
               have hz : dch (M 877 k) = 1 := by unfold dch; rw [if_neg (by omega), if_pos hy5]
               have hq := hs (by omega)
               rw [hz] at hq
               rw [g7, g8] at h69
               have e7 : ∀ v w : Int, (um (um M1 882 d v) 881 (d + 1) w) 857 = M 857 := fun v w => funext (fun j => by rw [um_k (by decide), um_k (by decide), g7])
               have e8 : ∀ v w : Int, (um (um M1 882 d v) 881 (d + 1) w) 858 = M 858 := fun v w => funext (fun j => by rw [um_k (by decide), um_k (by decide), g8])
               rw [e7, e8] at h85
               rw [ew] at h69 h85
               have hl := LV_open hG hv hd.1 (hkl (by omega)) (hgd (by omega)) hy5 h69 h85
               rw [← ew] at hl
               refine ih _ (by omega) _ _ _ r73 r87 (by omega) hl6 (by omega) rfl (fe_ums (fe_ums (fe_ums F (by (try dsimp only [stE]); first | done | omega)) (by (try dsimp only [stE]); first | done | omega)) (by (try dsimp only [stE]); first | done | omega)) (fun j h1 h2 => ?_) hq (hw _ hq (by omega)) (by rw [k1]; exact hl)
               rw [um_k (by decide)]
               by_cases ej : j = d + 1
               · subst ej; rw [um_eq]; omega
               · rw [um_j ej, um_k (by decide)]; exact ho j h1 (by omega))
      · skip
        refine at_iload dx_101_34 rfl ?_
        refine at_zeqR dx_101_35 rd (fun c35 => ?_) (fun c35 => ?_)
        · skip
          refine at_const (x := 0) dx_101_45 rfl ?_
          refine at_zretI dx_101_46 (Or.inl rfl) ?_
          exact ⟨F, Or.inl rfl, fun e => absurd e (by decide), fun e => absurd e (by decide), fun e => absurd e.2 (LV_closeN hv hd.1 (hkl (by omega)) (by rw [hgd (by omega)]; omega) (by omega))⟩
        · skip
          refine at_aload dx_101_36 rfl ?_
          refine at_getR dx_101_37 lc_856 rfl lt_856_30 ?_
          refine at_iload dx_101_38 rfl ?_
          refine at_aldI dx_101_39 lc_882 ln_882 (by first | omega | (simp (disch := omega) only [um_eq, um_k, um_j]; omega)) (by first | omega | (simp (disch := omega) only [um_eq, um_k, um_j]; omega)) (fun r39 => ?_)
          refine at_const (x := 6) dx_101_40 rfl ?_
          refine at_shr dx_101_41 ?_
          refine at_const (x := 1) dx_101_42 rfl ?_
          refine at_and dx_101_43 ?_
          refine at_zneR dx_101_44 (inR_and _ _) (fun c44 => ?_) (fun c44 => ?_)
          · skip
            refine at_iincR (y := -1) dx_101_47 rfl rfl (by constructor <;> omega) (fun r47 => ?_)
            refine at_goto dx_101_48 ?_
            refine at_iincR (y := 1) dx_101_87 rfl rfl (by constructor <;> omega) (fun r87 => ?_)
            refine at_goto dx_101_88 ?_
            refine at_wk (ls := [vr 856, vi _, vi _]) ⟨Or.inl rfl, Or.inl rfl, Or.inl rfl, trivial⟩ ?_
            first
            | (exfalso; omega)
            | (have hz : dch (M 877 k) = -1 := by unfold dch; rw [if_pos (by omega)]
               have hq := hs (by omega)
               rw [hz] at hq
               have hl := LV_close hv hd.1 (hkl (by omega)) (by rw [hgd (by omega)]; omega) (by omega) (by first | omega | (split at * <;> omega))
               exact ih _ (by omega) _ _ _ r47 r87 (by omega) hl6 (by omega) rfl F (fun j h1 h2 => ho j h1 (by omega)) hq (hw _ hq (by omega)) (by rw [k1]; exact hl))
            | (have hn5 : ¬ (1 ≤ M 877 k ∧ M 877 k ≤ 5) := fun hh => by rw [if_pos (by omega)] at h50; omega
               have hz : dch (M 877 k) = 0 := by unfold dch; rw [if_neg (by omega), if_neg hn5]
               have hq := hs (by omega)
               rw [hz, Int.add_zero] at hq
               rw [g7, g8] at h69
               have hl := LV_char hG hv hd.1 (hkl (by omega)) (hgd (by omega)) (by omega) hn5 h69
               exact ih _ (by omega) _ _ _ rd r87 (by omega) hl6 (by omega) rfl (fe_ums F (by (try dsimp only [stE]); first | done | omega)) (fun j h1 h2 => by rw [um_k (by decide)]; exact ho j h1 h2) hq (hw _ hq (by omega)) (by rw [k1]; exact hl))
            | (have hy5 : 1 ≤ M 877 k ∧ M 877 k ≤ 5 := by split at h50 <;> omega
               have hz : dch (M 877 k) = 1 := by unfold dch; rw [if_neg (by omega), if_pos hy5]
               have hq := hs (by omega)
               rw [hz] at hq
               rw [g7, g8] at h69
               have e7 : ∀ v w : Int, (um (um M1 882 d v) 881 (d + 1) w) 857 = M 857 := fun v w => funext (fun j => by rw [um_k (by decide), um_k (by decide), g7])
               have e8 : ∀ v w : Int, (um (um M1 882 d v) 881 (d + 1) w) 858 = M 858 := fun v w => funext (fun j => by rw [um_k (by decide), um_k (by decide), g8])
               rw [e7, e8] at h85
               rw [ew] at h69 h85
               have hl := LV_open hG hv hd.1 (hkl (by omega)) (hgd (by omega)) hy5 h69 h85
               rw [← ew] at hl
               refine ih _ (by omega) _ _ _ r73 r87 (by omega) hl6 (by omega) rfl (fe_ums (fe_ums (fe_ums F (by (try dsimp only [stE]); first | done | omega)) (by (try dsimp only [stE]); first | done | omega)) (by (try dsimp only [stE]); first | done | omega)) (fun j h1 h2 => ?_) hq (hw _ hq (by omega)) (by rw [k1]; exact hl)
               rw [um_k (by decide)]
               by_cases ej : j = d + 1
               · subst ej; rw [um_eq]; omega
               · rw [um_j ej, um_k (by decide)]; exact ho j h1 (by omega))
          · skip
            refine at_const (x := 0) dx_101_45 rfl ?_
            refine at_zretI dx_101_46 (Or.inl rfl) ?_
            exact ⟨F, Or.inl rfl, fun e => absurd e (by decide), fun e => absurd e (by decide), fun e => absurd e.2 (LV_closeN hv hd.1 (hkl (by omega)) (by rw [hgd (by omega)]; omega) (by omega))⟩
  refine at_aload dx_101_0 rfl ?_
  refine at_getI 23 dx_101_1 lc_856 rfl rfl (fun r1 => ?_)
  refine at_const (x := 60) dx_101_2 rfl ?_
  refine at_cleR dx_101_3 r1 (by decide) (fun c3 => ?_) (fun c3 => ?_)
  · skip
    refine at_const (x := 0) dx_101_6 rfl ?_
    refine at_istore dx_101_7 ?_
    refine at_aload dx_101_8 rfl ?_
    refine at_getR dx_101_9 lc_856 rfl lt_856_29 ?_
    refine at_const (x := 0) dx_101_10 rfl ?_
    refine at_const (x := 0) dx_101_11 rfl ?_
    refine at_astI dx_101_12 lc_881 ln_881 (by decide) (by decide) (by decide) ?_
    refine at_aload dx_101_13 rfl ?_
    refine at_getR dx_101_14 lc_856 rfl lt_856_30 ?_
    refine at_const (x := 0) dx_101_15 rfl ?_
    refine at_aload dx_101_16 rfl ?_
    refine at_const (x := 0) dx_101_17 rfl ?_
    refine at_const (x := 1) dx_101_18 rfl ?_
    refine at_callVI dx_101_19 rfl lc_856 rfl (x_spreads (by decide) (by decide) (by decide)) ?_
    rintro x19 M9 r19 ⟨e9, h19⟩; replace e9 := e9.symm; subst e9
    refine at_astI dx_101_20 lc_882 ln_882 (by decide) (by decide) r19 ?_
    refine at_const (x := 0) dx_101_21 rfl ?_
    refine at_istore dx_101_22 ?_
    refine lp _ 0 0 _ (by decide) (by decide) (by omega) (by omega) (by decide) rfl (by (repeat (first | exact fe_rf | refine fe_ums ?_ (by (try dsimp only); first | done | omega)))) (fun j h1 h2 => by rw [show j = 0 by omega]; simp (disch := omega) only [um_eq, um_k]; decide) rfl (fun i hi => by rw [show i = 0 by omega]; exact Int.le_refl _) (LV_start ?_ ?_)
    · rw [um_k (by decide), um_eq]
    · rw [um_eq, h19, show (um M 881 0 0) 857 = M 857 from funext (fun j => um_k (by decide)), show (um M 881 0 0) 858 = M 858 from funext (fun j => um_k (by decide))]
  · skip
    refine at_const (x := 0) dx_101_4 rfl ?_
    refine at_zretI dx_101_5 (Or.inl rfl) ?_
    exact ⟨fe_rf, Or.inl rfl, fun e => absurd e (by decide), fun e => absurd e (by decide), fun e => by omega⟩
