/-! ===== the tables hold: each row against the method's bytes and the words ===== -/
theorem ok_109 : sx_okM 109 = true := by decide +kernel
theorem ok_110 : sx_okM 110 = true := by decide +kernel
theorem ok_111 : sx_okM 111 = true := by decide +kernel
theorem ok_112 : sx_okM 112 = true := by decide +kernel
theorem ok_113 : sx_okM 113 = true := by decide +kernel
theorem ok_114 : sx_okM 114 = true := by decide +kernel
theorem ok_115 : sx_okM 115 = true := by decide +kernel
theorem ok_116 : sx_okM 116 = true := by decide +kernel
theorem ok_117 : sx_okM 117 = true := by decide +kernel
theorem ok_118 : sx_okM 118 = true := by decide +kernel
