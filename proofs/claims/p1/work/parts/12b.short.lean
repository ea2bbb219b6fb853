/-! ===== the runs of the short scripts ===== -/
theorem sd_S3 : sd_good (sd_run [] 3) = true := by decide +kernel
theorem sd_S4 : sd_good (sd_run [] 4) = true := by decide +kernel
theorem sd_S5 : sd_good (sd_run [] 5) = true := by decide +kernel
theorem sd_short (L : Nat) (h : L < 6) : sd_good (sd_run [] L) = true := by
  match L, h with
  | 0, _ => exact sd_S0
  | 1, _ => exact sd_S1
  | 2, _ => exact sd_S2
  | 3, _ => exact sd_S3
  | 4, _ => exact sd_S4
  | 5, _ => exact sd_S5
  | L + 6, h => omega
