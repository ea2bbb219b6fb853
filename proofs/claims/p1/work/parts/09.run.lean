/-! ===== the law's run over a box ===== -/
noncomputable def sx_h00 : sx_H Nat := (sx_tr 10 none, (0, (0, (0, true))))
noncomputable def sx_scr : sx_V Nat := some (.inr (.inr (.inr ())))
noncomputable def sd_run (bx : sd_B) (L N : Nat) : Option (sx_R Nat) := sx_run sx_cd (sd_o bx L) N (sx_cd 182) (sx_cd 182) (sx_args 0 [sx_scr]) [] sx_h00
noncomputable def sd_good (r : Option (sx_R Nat)) : Bool := match r with
  | some ((1, some (.inl n)), h) => Nat.beq n 1 && (Nat.ble h.2.2.1 600002 && Nat.ble h.2.2.2.1 7302232)
  | _ => false
theorem sd_try : sd_good (sd_run [] 0 7000) = true := by decide +kernel
