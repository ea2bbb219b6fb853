/-! ===== the runs of the short scripts ===== -/
theorem sd_S0 : sd_good (sd_run [] 0) = true := by decide +kernel
theorem sd_S1 : sd_good (sd_run [] 1) = true := by decide +kernel
theorem sd_S2 : sd_good (sd_run [] 2) = true := by decide +kernel
