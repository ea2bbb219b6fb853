/-! ===== the tables hold: each row against the method's bytes and the words ===== -/
theorem ok_16 : sx_okM 16 = true := by decide +kernel
theorem ok_17 : sx_okM 17 = true := by decide +kernel
theorem ok_18 : sx_okM 18 = true := by decide +kernel
theorem ok_19 : sx_okM 19 = true := by decide +kernel
theorem ok_20 : sx_okM 20 = true := by decide +kernel
theorem ok_21 : sx_okM 21 = true := by decide +kernel
theorem ok_22 : sx_okM 22 = true := by decide +kernel
theorem ok_23 : sx_okM 23 = true := by decide +kernel
theorem ok_24 : sx_okM 24 = true := by decide +kernel
theorem ok_25 : sx_okM 25 = true := by decide +kernel
theorem ok_26 : sx_okM 26 = true := by decide +kernel
theorem ok_27 : sx_okM 27 = true := by decide +kernel
theorem ok_28 : sx_okM 28 = true := by decide +kernel
theorem ok_29 : sx_okM 29 = true := by decide +kernel
theorem ok_30 : sx_okM 30 = true := by decide +kernel
