/-! ===== the tables hold: each row against the method's bytes and the words ===== -/
theorem ok_182 : sx_okM 182 = true := by decide +kernel
