/-! ===== the tables hold: each row against the method's bytes and the words ===== -/
theorem ok_0 : sx_okM 0 = true := by decide +kernel
theorem ok_1 : sx_okM 1 = true := by decide +kernel
theorem ok_2 : sx_okM 2 = true := by decide +kernel
theorem ok_3 : sx_okM 3 = true := by decide +kernel
theorem ok_4 : sx_okM 4 = true := by decide +kernel
theorem ok_5 : sx_okM 5 = true := by decide +kernel
theorem ok_6 : sx_okM 6 = true := by decide +kernel
theorem ok_7 : sx_okM 7 = true := by decide +kernel
theorem ok_8 : sx_okM 8 = true := by decide +kernel
theorem ok_9 : sx_okM 9 = true := by decide +kernel
theorem ok_10 : sx_okM 10 = true := by decide +kernel
theorem ok_11 : sx_okM 11 = true := by decide +kernel
theorem ok_12 : sx_okM 12 = true := by decide +kernel
theorem ok_13 : sx_okM 13 = true := by decide +kernel
theorem ok_14 : sx_okM 14 = true := by decide +kernel
theorem ok_15 : sx_okM 15 = true := by decide +kernel
