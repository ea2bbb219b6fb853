/-! ===== the law's run over a box ===== -/
noncomputable def sx_h00 : sx_H Nat := (sx_tr 10 none, (0, (0, (0, true))))
noncomputable def sx_scr : sx_V Nat := some (.inr (.inr (.inr ())))
/-- the first k rows for all boxes at once, the rest for one -/
noncomputable def sx_pre (o : sx_O Nat) (call : sx_K Nat) (rn : List Nat → sx_G Nat) (k : Nat) : List Nat → sx_G Nat :=
  Nat.rec (motive := fun _ => List Nat → sx_G Nat) rn (fun _ ih full cs ls st h => match cs with
    | [] => none
    | x :: r => sx_hf (sx_xq x) o call (ih full) full (sx_xa x) (sx_xb x) (sx_xc x) r ls st h) k
noncomputable def sd_o6 : sx_O Nat := sd_of [] 6
noncomputable def sd_call0 : sx_K Nat := sx_ca sx_cd (sx_runh sx_hf sx_cd sd_o6 20000)
noncomputable def sd_run6 (bx : sd_B) : Option (sx_R Nat) := sx_pre sd_o6 sd_call0 (sx_runh sx_hf sx_cd (sd_of bx 6) 20000) 8 (sx_cd 182) (sx_cd 182) (sx_args 0 [sx_scr]) [] sx_h00
noncomputable def sd_run (bx : sd_B) (L : Nat) : Option (sx_R Nat) := sx_runh sx_hf sx_cd (sd_of bx L) 20000 (sx_cd 182) (sx_cd 182) (sx_args 0 [sx_scr]) [] sx_h00
noncomputable def sd_good (r : Option (sx_R Nat)) : Bool := match r with
  | some ((1, some (.inl n)), h) => Nat.beq n 1 && (Nat.ble h.2.2.1 600002 && Nat.ble h.2.2.2.1 7302232)
  | _ => false
/-- the box of the script's first int's rest -/
noncomputable def sd_b0 (r : Nat) : sd_B := [(0, (4294967295, r)), (0, (4294967295, 4)), (0, (4294967295, 4)), (0, (4294967295, 4)), (0, (4294967295, 4)), (0, (4294967295, 4)), (0, (4294967295, 4))]
