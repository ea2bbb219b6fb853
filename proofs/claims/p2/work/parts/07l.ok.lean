/-! ===== the law's table, in pieces ===== -/
noncomputable def sx_okN (own : String) (ini wrp : Bool) (ret : Option FieldType) (bs : ByteArray) (maxL fr lo : Nat) (full : List Nat) : Nat → List Nat → Bool
  | 0, _ => true
  | _ + 1, [] => true
  | n + 1, x :: cs => sx_ok1 own ini wrp ret bs maxL fr lo full x cs (sx_xq x) && sx_okN own ini wrp ret bs maxL fr lo full n cs
theorem sx_okN_ok {own : String} {ini wrp : Bool} {ret : Option FieldType} {bs : ByteArray} {maxL fr lo : Nat} {full : List Nat} (n : Nat) : ∀ (cs : List Nat), sx_okN own ini wrp ret bs maxL fr lo full n cs = true → sx_okL own ini wrp ret bs maxL fr lo full (cs.drop n) = true → sx_okL own ini wrp ret bs maxL fr lo full cs = true := by
  induction n with
  | zero => intro cs _ h; exact h
  | succ n ih =>
    intro cs h1 h2
    cases cs with
    | nil => rfl
    | cons x r =>
      have h3 : (sx_ok1 own ini wrp ret bs maxL fr lo full x r (sx_xq x) && sx_okN own ini wrp ret bs maxL fr lo full n r) = true := h1
      obtain ⟨a, b⟩ := sx_a2 h3
      show (sx_ok1 own ini wrp ret bs maxL fr lo full x r (sx_xq x) && sx_okL own ini wrp ret bs maxL fr lo full r) = true
      rw [a, ih r b h2]; rfl
theorem sx_okM_of {i : Nat} {y : MethodName} {bs : ByteArray} {mL : Nat} {ret : Option FieldType} {f lo kd qc qi qs qn : Nat} (h1 : sx_m[i]? = some (y, (bs, (mL, (ret, (f, lo)))))) (h2 : sx_mq[i]? = some (kd, (qc, (qi, (qs, qn))))) (h3 : sx_okL y.cls (decide (y.name = "<init>")) (Nat.beq kd 3) ret bs mL f lo (sx_cd i) (sx_cd i) = true) (h4 : (sx_nx (sx_cd i) 0 && (plainName y.cls && (sx_mh y.cls && (sx_wk y bs mL ret qc qi qs qn kd && (!(Nat.beq kd 3) || (sx_wrk qc bs mL (sx_cd i) && (decide (y.cls = RL) && decide (ret = some .int)))))))) = true) : sx_okM i = true := by
  unfold sx_okM
  rw [h1, h2]
  show (sx_okL y.cls (decide (y.name = "<init>")) (Nat.beq kd 3) ret bs mL f lo (sx_cd i) (sx_cd i) && _) = true
  rw [h3]
  exact h4
theorem lk_0 : sx_okN yL_law.cls (decide (yL_law.name = "<init>")) (Nat.beq 4 3) ret cL_law 7 10 217 (sx_cd 182) 40 ((sx_cd 182).drop 0) = true := by decide +kernel
theorem lk_1 : sx_okN yL_law.cls (decide (yL_law.name = "<init>")) (Nat.beq 4 3) ret cL_law 7 10 217 (sx_cd 182) 40 ((sx_cd 182).drop 40) = true := by decide +kernel
theorem lk_2 : sx_okN yL_law.cls (decide (yL_law.name = "<init>")) (Nat.beq 4 3) ret cL_law 7 10 217 (sx_cd 182) 40 ((sx_cd 182).drop 80) = true := by decide +kernel
theorem lk_3 : sx_okN yL_law.cls (decide (yL_law.name = "<init>")) (Nat.beq 4 3) ret cL_law 7 10 217 (sx_cd 182) 40 ((sx_cd 182).drop 120) = true := by decide +kernel
theorem lk_4 : sx_okN yL_law.cls (decide (yL_law.name = "<init>")) (Nat.beq 4 3) ret cL_law 7 10 217 (sx_cd 182) 40 ((sx_cd 182).drop 160) = true := by decide +kernel
theorem lk_5 : sx_okN yL_law.cls (decide (yL_law.name = "<init>")) (Nat.beq 4 3) ret cL_law 7 10 217 (sx_cd 182) 40 ((sx_cd 182).drop 200) = true := by decide +kernel
theorem lk_6 : sx_okN yL_law.cls (decide (yL_law.name = "<init>")) (Nat.beq 4 3) ret cL_law 7 10 217 (sx_cd 182) 40 ((sx_cd 182).drop 240) = true := by decide +kernel
theorem lk_7 : sx_okN yL_law.cls (decide (yL_law.name = "<init>")) (Nat.beq 4 3) ret cL_law 7 10 217 (sx_cd 182) 40 ((sx_cd 182).drop 280) = true := by decide +kernel
theorem lk_8 : sx_okN yL_law.cls (decide (yL_law.name = "<init>")) (Nat.beq 4 3) ret cL_law 7 10 217 (sx_cd 182) 40 ((sx_cd 182).drop 320) = true := by decide +kernel
