/-! ===== the tables hold: each row against the method's bytes and the words ===== -/
theorem ok_143 : sx_okM 143 = true := by decide +kernel
theorem ok_144 : sx_okM 144 = true := by decide +kernel
theorem ok_145 : sx_okM 145 = true := by decide +kernel
theorem ok_146 : sx_okM 146 = true := by decide +kernel
theorem ok_147 : sx_okM 147 = true := by decide +kernel
theorem ok_148 : sx_okM 148 = true := by decide +kernel
theorem ok_149 : sx_okM 149 = true := by decide +kernel
theorem ok_150 : sx_okM 150 = true := by decide +kernel
theorem ok_151 : sx_okM 151 = true := by decide +kernel
theorem ok_152 : sx_okM 152 = true := by decide +kernel
theorem ok_153 : sx_okM 153 = true := by decide +kernel
theorem ok_154 : sx_okM 154 = true := by decide +kernel
theorem ok_155 : sx_okM 155 = true := by decide +kernel
theorem ok_156 : sx_okM 156 = true := by decide +kernel
theorem ok_157 : sx_okM 157 = true := by decide +kernel
