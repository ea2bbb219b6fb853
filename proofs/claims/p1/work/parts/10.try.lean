theorem sd_t2 : (sd_good (sd_run6 (sd_b0 25)) && (sd_good (sd_run6 (sd_b0 26)) && (sd_good (sd_run6 (sd_b0 27)) && sd_good (sd_run6 (sd_b0 17))))) = true := by decide +kernel
