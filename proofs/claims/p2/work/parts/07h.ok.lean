/-! ===== the tables hold: each row against the method's bytes and the words ===== -/
theorem ok_119 : sx_okM 119 = true := by decide +kernel
theorem ok_120 : sx_okM 120 = true := by decide +kernel
theorem ok_121 : sx_okM 121 = true := by decide +kernel
theorem ok_122 : sx_okM 122 = true := by decide +kernel
theorem ok_123 : sx_okM 123 = true := by decide +kernel
theorem ok_124 : sx_okM 124 = true := by decide +kernel
theorem ok_125 : sx_okM 125 = true := by decide +kernel
theorem ok_126 : sx_okM 126 = true := by decide +kernel
theorem ok_127 : sx_okM 127 = true := by decide +kernel
theorem ok_128 : sx_okM 128 = true := by decide +kernel
theorem ok_129 : sx_okM 129 = true := by decide +kernel
theorem ok_130 : sx_okM 130 = true := by decide +kernel
theorem ok_131 : sx_okM 131 = true := by decide +kernel
theorem ok_132 : sx_okM 132 = true := by decide +kernel
theorem ok_133 : sx_okM 133 = true := by decide +kernel
